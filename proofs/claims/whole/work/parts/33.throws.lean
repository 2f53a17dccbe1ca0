def fn_X9_scoreT (N : Nat) (M : Mem) (a0 : Nat) (x1 : Int32) (x2 : Int32) (x3 : Int32) : Option (Int32 × Mem) :=
  (mm_ck M a0 9).bind fun _ => mm_b2 (fn_X9_isType N M a0 x1) fun v2 M1 =>
  if v2 = 0 then
    some (1, M1)
  else
    mm_b2 (fn_X9_isMeasurement N M1 x2 x3) fun v4 M3 =>
    if v4 = 0 then
      some (2, M3)
    else
      (mm_gR M3 a0 9 3).bind fun b5 =>
      (mm_gR M3 b5 0 0).bind fun b6 =>
      (mm_gR M3 a0 9 5).bind fun b7 =>
      (mm_gI M3 b7 7 0).bind fun v8 =>
      (mm_gR M3 a0 9 5).bind fun b9 =>
      (mm_gI M3 b9 7 1).bind fun v10 =>
      (mm_ck M3 b6 3).bind fun _ => mm_b2 (fn_X3_scoreOf N M3 b6 x1 ((x2 + v8)) ((x3 + v10))) fun v12 M11 =>
      if v12 = 1000000 then
        none
      else
        none
set_option maxRecDepth 100000 in
set_option maxHeartbeats 4000000 in
theorem tt_X9_score {l : Launch} (hst : l.stackTraces = false) {ω : Wd} {k N : Nat} {M : Mem} {a0 : Nat} {x1 : Int32} {x2 : Int32} {x3 : Int32} {r : Int32} {M' : Mem} (h : fn_X9_scoreT N M a0 x1 x2 x3 = some (r, M')) : CT l ω k yX9_score cX9_score 5 (some .int) 6 [.ref a0, .int x1, .int x2, .int x3] M (xn r) M' := by
  refine CT.of (by decide) (Nat.le_of_ble_eq_true rfl) fun Γ hl C htab => ?_
  subst hl
  unfold fn_X9_scoreT at h
  refine jv_aload_n C dX9_score_0 rfl 0 rfl ?_
  refine jv_iload_n C dX9_score_1 rfl 1 rfl ?_
  refine jv_vI0 (As := [.int x1]) C lk_X9_139 rfl dX9_score_2 rfl rfl (by decide) (by decide) (by decide) (Nat.le_of_ble_eq_true rfl) h (fun _ _ h => ct_X9_isType h) (fun v2 M1 h => ?_)
  refine jv_if_ne (tgt := 18) C dX9_score_5 (by decide) h (fun h => ?_) (fun h => ?_)
  · refine jv_iload_n C dX9_score_18 rfl 2 rfl ?_
    refine jv_iload_n C dX9_score_19 rfl 3 rfl ?_
    refine jv_sI0 (As := [.int x2, .int x3]) C lk_X9_150 dX9_score_20 rfl rfl (by decide) (by decide) (by decide) (Nat.le_of_ble_eq_true rfl) h (fun _ _ h => ct_X9_isMeasurement h) (fun v4 M3 h => ?_)
    refine jv_if_ne (tgt := 36) C dX9_score_23 (by decide) h (fun h => ?_) (fun h => ?_)
    · refine jv_aload_n C dX9_score_36 rfl 0 rfl ?_
      refine jv_getR C fa_X9_23 dX9_score_37 h (fun b5 h => ?_)
      refine jv_getR C fa_X9_102 dX9_score_40 h (fun b6 h => ?_)
      refine jv_iload_n C dX9_score_43 rfl 1 rfl ?_
      refine jv_iload_n C dX9_score_44 rfl 2 rfl ?_
      refine jv_aload_n C dX9_score_45 rfl 0 rfl ?_
      refine jv_getR C fa_X9_33 dX9_score_46 h (fun b7 h => ?_)
      refine jv_getI C fa_X9_159 dX9_score_49 h (fun v8 h => ?_)
      refine jv_iadd C dX9_score_52 ?_
      refine jv_iload_n C dX9_score_53 rfl 3 rfl ?_
      refine jv_aload_n C dX9_score_54 rfl 0 rfl ?_
      refine jv_getR C fa_X9_33 dX9_score_55 h (fun b9 h => ?_)
      refine jv_getI C fa_X9_162 dX9_score_58 h (fun v10 h => ?_)
      refine jv_iadd C dX9_score_61 ?_
      refine jv_vI0 (As := [.int x1, .int (x2 + v8), .int (x3 + v10)]) C lk_X9_165 rfl dX9_score_62 rfl rfl (by decide) (by decide) (by decide) (Nat.le_of_ble_eq_true rfl) h (fun _ _ h => ct_X3_scoreOf h) (fun v12 M11 h => ?_)
      refine jv_istore (lv' := [(4, .int v12), (0, .ref a0), (1, .int x1), (2, .int x2), (3, .int x3)]) C dX9_score_65 (by decide) rfl ?_
      refine jv_iload C dX9_score_67 0 rfl ?_
      refine jv_ldc C gw_1304 dX9_score_69 ?_
      refine jv_icmp_ne (tgt := 79) C dX9_score_71 (by decide) h (fun h => ?_) (fun h => ?_)
      · refine jv_iload C dX9_score_79 0 rfl ?_
        exact jv_no h
      · refine jv_bipush (v := (-2)) C dX9_score_74 (by decide) ?_
        refine jv_goto (tgt := 81) C dX9_score_76 (by decide) ?_
        exact jv_no h
    · exact jv_throw (hh := 0) C hst htab th_X9_154_156 dX9_score_26 dX9_score_29 dX9_score_30 dX9_score_32 dX9_score_35 (Nat.le_of_ble_eq_true rfl) rfl h
  · exact jv_throw (hh := 0) C hst htab th_X9_143_145 dX9_score_8 dX9_score_11 dX9_score_12 dX9_score_14 dX9_score_17 (Nat.le_of_ble_eq_true rfl) rfl h
def fn_X9_classifyT (N : Nat) (M : Mem) (a0 : Nat) (x1 : Int32) (x2 : Int32) : Option (Int32 × Mem) :=
  mm_b2 (fn_X9_isMeasurement N M x1 x2) fun v2 M1 =>
  if v2 = 0 then
    some (2, M1)
  else
    (mm_gR M1 a0 9 5).bind fun b3 =>
    (mm_gI M1 b3 7 2).bind fun v4 =>
    (mm_ck M1 a0 9).bind fun _ => mm_b2 (fn_X9_verdict N M1 a0 x1 x2 v4) fun v6 M5 =>
    none
set_option maxRecDepth 100000 in
set_option maxHeartbeats 4000000 in
theorem tt_X9_classify {l : Launch} (hst : l.stackTraces = false) {ω : Wd} {k N : Nat} {M : Mem} {a0 : Nat} {x1 : Int32} {x2 : Int32} {r : Int32} {M' : Mem} (h : fn_X9_classifyT N M a0 x1 x2 = some (r, M')) : CT l ω k yX9_classify cX9_classify 3 (some .int) 6 [.ref a0, .int x1, .int x2] M (xn r) M' := by
  refine CT.of (by decide) (Nat.le_of_ble_eq_true rfl) fun Γ hl C htab => ?_
  subst hl
  unfold fn_X9_classifyT at h
  refine jv_iload_n C dX9_classify_0 rfl 1 rfl ?_
  refine jv_iload_n C dX9_classify_1 rfl 2 rfl ?_
  refine jv_sI0 (As := [.int x1, .int x2]) C lk_X9_150 dX9_classify_2 rfl rfl (by decide) (by decide) (by decide) (Nat.le_of_ble_eq_true rfl) h (fun _ _ h => ct_X9_isMeasurement h) (fun v2 M1 h => ?_)
  refine jv_if_ne (tgt := 18) C dX9_classify_5 (by decide) h (fun h => ?_) (fun h => ?_)
  · refine jv_aload_n C dX9_classify_18 rfl 0 rfl ?_
    refine jv_iload_n C dX9_classify_19 rfl 1 rfl ?_
    refine jv_iload_n C dX9_classify_20 rfl 2 rfl ?_
    refine jv_aload_n C dX9_classify_21 rfl 0 rfl ?_
    refine jv_getR C fa_X9_33 dX9_classify_22 h (fun b3 h => ?_)
    refine jv_getI C fa_X9_170 dX9_classify_25 h (fun v4 h => ?_)
    refine jv_vI0 (As := [.int x1, .int x2, .int v4]) C lk_X9_173 rfl dX9_classify_28 rfl rfl (by decide) (by decide) (by decide) (Nat.le_of_ble_eq_true rfl) h (fun _ _ h => ct_X9_verdict h) (fun v6 M5 h => ?_)
    exact jv_no h
  · exact jv_throw (hh := 0) C hst htab th_X9_154_156 dX9_classify_8 dX9_classify_11 dX9_classify_12 dX9_classify_14 dX9_classify_17 (Nat.le_of_ble_eq_true rfl) rfl h
def fn_X9_auditT (N : Nat) (M : Mem) (a0 : Nat) (x1 : Int32) (x2 : Int32) : Option (Int32 × Mem) :=
  (mm_gR M a0 9 5).bind fun b1 =>
  (mm_gR M b1 7 10).bind fun b2 =>
  (mm_ck M b2 6).bind fun _ => mm_b2 (fn_X6_has N M b2 x1) fun v4 M3 =>
  if v4 = 0 then
    some (1, M3)
  else
    if x2 < 0 then
      some (2, M3)
    else
      if x2 ≤ 200 then
        (mm_gR M3 a0 9 5).bind fun b5 =>
        (mm_gR M3 b5 7 12).bind fun b6 =>
        (mm_ck M3 b6 6).bind fun _ => mm_b2 (fn_X6_at N M3 b6 x1) fun v8 M7 =>
        if v8 = (-1) then
          (mm_gR M7 a0 9 6).bind fun b9 =>
          (mm_gR M7 a0 9 5).bind fun b10 =>
          (mm_ck M7 b9 1).bind fun _ => mm_b2 (fn_X1_push N M7 b9 b10) fun _ M11 =>
          (mm_gR M11 a0 9 5).bind fun b12 =>
          (mm_gR M11 b12 7 12).bind fun b13 =>
          (mm_ck M11 b13 6).bind fun _ => mm_b2 (fn_X6_put N M11 b13 x1 x2) fun _ M14 =>
          (mm_gR M14 a0 9 5).bind fun b15 =>
          (mm_gR M14 b15 7 11).bind fun b16 =>
          (mm_ck M14 b16 6).bind fun _ => mm_b2 (fn_X6_at N M14 b16 x1) fun v18 M17 =>
          none
        else
          some (3, M7)
      else
        some (2, M3)
set_option maxRecDepth 100000 in
set_option maxHeartbeats 4000000 in
theorem tt_X9_audit {l : Launch} (hst : l.stackTraces = false) {ω : Wd} {k N : Nat} {M : Mem} {a0 : Nat} {x1 : Int32} {x2 : Int32} {r : Int32} {M' : Mem} (h : fn_X9_auditT N M a0 x1 x2 = some (r, M')) : CT l ω k yX9_audit cX9_audit 3 (some .int) 6 [.ref a0, .int x1, .int x2] M (xn r) M' := by
  refine CT.of (by decide) (Nat.le_of_ble_eq_true rfl) fun Γ hl C htab => ?_
  subst hl
  unfold fn_X9_auditT at h
  refine jv_aload_n C dX9_audit_0 rfl 0 rfl ?_
  refine jv_getR C fa_X9_33 dX9_audit_1 h (fun b1 h => ?_)
  refine jv_getR C fa_X9_214 dX9_audit_4 h (fun b2 h => ?_)
  refine jv_iload_n C dX9_audit_7 rfl 1 rfl ?_
  refine jv_vI0 (As := [.int x1]) C lk_X9_183 rfl dX9_audit_8 rfl rfl (by decide) (by decide) (by decide) (Nat.le_of_ble_eq_true rfl) h (fun _ _ h => ct_X6_has h) (fun v4 M3 h => ?_)
  refine jv_if_ne (tgt := 25) C dX9_audit_11 (by decide) h (fun h => ?_) (fun h => ?_)
  · refine jv_iload_n C dX9_audit_25 rfl 2 rfl ?_
    refine jv_if_lt (tgt := 36) C dX9_audit_26 (by decide) h (fun h => ?_) (fun h => ?_)
    · exact jv_throwW (hh := 0) C hst htab th_X9_154_329 dX9_audit_36 dX9_audit_39 dX9_audit_40 dX9_audit_43 dX9_audit_46 (Nat.le_of_ble_eq_true rfl) rfl h
    · refine jv_iload_n C dX9_audit_29 rfl 2 rfl ?_
      refine jv_sipush (v := 200) C dX9_audit_30 (by decide) ?_
      refine jv_icmp_le (tgt := 47) C dX9_audit_33 (by decide) h (fun h => ?_) (fun h => ?_)
      · refine jv_aload_n C dX9_audit_47 rfl 0 rfl ?_
        refine jv_getR C fa_X9_33 dX9_audit_48 h (fun b5 h => ?_)
        refine jv_getR C fa_X9_223 dX9_audit_51 h (fun b6 h => ?_)
        refine jv_iload_n C dX9_audit_54 rfl 1 rfl ?_
        refine jv_vI0 (As := [.int x1]) C lk_X9_132 rfl dX9_audit_55 rfl rfl (by decide) (by decide) (by decide) (Nat.le_of_ble_eq_true rfl) h (fun _ _ h => ct_X6_at h) (fun v8 M7 h => ?_)
        refine jv_iconst (v := (-1)) C dX9_audit_58 (by decide) ?_
        refine jv_icmp_eq (tgt := 73) C dX9_audit_59 (by decide) h (fun h => ?_) (fun h => ?_)
        · refine jv_aload_n C dX9_audit_73 rfl 0 rfl ?_
          refine jv_getR C fa_X9_40 dX9_audit_74 h (fun b9 h => ?_)
          refine jv_aload_n C dX9_audit_77 rfl 0 rfl ?_
          refine jv_getR C fa_X9_33 dX9_audit_78 h (fun b10 h => ?_)
          refine jv_vV0 (As := [.ref b10]) C lk_X9_279 rfl dX9_audit_81 rfl rfl (by decide) (by decide) (by decide) (Nat.le_of_ble_eq_true rfl) h (fun _ _ h => ct_X1_push h) (fun _ M11 h => ?_)
          refine jv_aload_n C dX9_audit_84 rfl 0 rfl ?_
          refine jv_getR C fa_X9_33 dX9_audit_85 h (fun b12 h => ?_)
          refine jv_getR C fa_X9_223 dX9_audit_88 h (fun b13 h => ?_)
          refine jv_iload_n C dX9_audit_91 rfl 1 rfl ?_
          refine jv_iload_n C dX9_audit_92 rfl 2 rfl ?_
          refine jv_vV0 (As := [.int x1, .int x2]) C lk_X9_336 rfl dX9_audit_93 rfl rfl (by decide) (by decide) (by decide) (Nat.le_of_ble_eq_true rfl) h (fun _ _ h => ct_X6_put h) (fun _ M14 h => ?_)
          refine jv_iload_n C dX9_audit_96 rfl 2 rfl ?_
          refine jv_aload_n C dX9_audit_97 rfl 0 rfl ?_
          refine jv_getR C fa_X9_33 dX9_audit_98 h (fun b15 h => ?_)
          refine jv_getR C fa_X9_217 dX9_audit_101 h (fun b16 h => ?_)
          refine jv_iload_n C dX9_audit_104 rfl 1 rfl ?_
          refine jv_vI0 (As := [.int x1]) C lk_X9_132 rfl dX9_audit_105 rfl rfl (by decide) (by decide) (by decide) (Nat.le_of_ble_eq_true rfl) h (fun _ _ h => ct_X6_at h) (fun v18 M17 h => ?_)
          refine jv_isub C dX9_audit_108 ?_
          exact jv_no h
        · exact jv_throwW (hh := 0) C hst htab th_X9_331_333 dX9_audit_62 dX9_audit_65 dX9_audit_66 dX9_audit_69 dX9_audit_72 (Nat.le_of_ble_eq_true rfl) rfl h
      · exact jv_throwW (hh := 0) C hst htab th_X9_154_329 dX9_audit_36 dX9_audit_39 dX9_audit_40 dX9_audit_43 dX9_audit_46 (Nat.le_of_ble_eq_true rfl) rfl h
  · exact jv_throwW (hh := 0) C hst htab th_X9_143_327 dX9_audit_14 dX9_audit_17 dX9_audit_18 dX9_audit_21 dX9_audit_24 (Nat.le_of_ble_eq_true rfl) rfl h
