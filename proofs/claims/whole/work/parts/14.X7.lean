theorem dX7_init_0 : decode cX7_init 0 = .ok (.aload_n 0, 1) := by decide +kernel
theorem dX7_init_1 : decode cX7_init 1 = .ok (.invokespecial 3, 3) := by decide +kernel
theorem dX7_init_4 : decode cX7_init 4 = .ok (.aload_n 0, 1) := by decide +kernel
theorem dX7_init_5 : decode cX7_init 5 = .ok (.bipush 100, 2) := by decide +kernel
theorem dX7_init_7 : decode cX7_init 7 = .ok (.putfield 9, 3) := by decide +kernel
theorem dX7_init_10 : decode cX7_init 10 = .ok (.aload_n 0, 1) := by decide +kernel
theorem dX7_init_11 : decode cX7_init 11 = .ok (.new 15, 3) := by decide +kernel
theorem dX7_init_14 : decode cX7_init 14 = .ok (.dup, 1) := by decide +kernel
theorem dX7_init_15 : decode cX7_init 15 = .ok (.bipush 60, 2) := by decide +kernel
theorem dX7_init_17 : decode cX7_init 17 = .ok (.invokespecial 17, 3) := by decide +kernel
theorem dX7_init_20 : decode cX7_init 20 = .ok (.putfield 20, 3) := by decide +kernel
theorem dX7_init_23 : decode cX7_init 23 = .ok (.aload_n 0, 1) := by decide +kernel
theorem dX7_init_24 : decode cX7_init 24 = .ok (.new 15, 3) := by decide +kernel
theorem dX7_init_27 : decode cX7_init 27 = .ok (.dup, 1) := by decide +kernel
theorem dX7_init_28 : decode cX7_init 28 = .ok (.bipush 20, 2) := by decide +kernel
theorem dX7_init_30 : decode cX7_init 30 = .ok (.invokespecial 17, 3) := by decide +kernel
theorem dX7_init_33 : decode cX7_init 33 = .ok (.putfield 24, 3) := by decide +kernel
theorem dX7_init_36 : decode cX7_init 36 = .ok (.aload_n 0, 1) := by decide +kernel
theorem dX7_init_37 : decode cX7_init 37 = .ok (.new 15, 3) := by decide +kernel
theorem dX7_init_40 : decode cX7_init 40 = .ok (.dup, 1) := by decide +kernel
theorem dX7_init_41 : decode cX7_init 41 = .ok (.bipush 8, 2) := by decide +kernel
theorem dX7_init_43 : decode cX7_init 43 = .ok (.invokespecial 17, 3) := by decide +kernel
theorem dX7_init_46 : decode cX7_init 46 = .ok (.putfield 27, 3) := by decide +kernel
theorem dX7_init_49 : decode cX7_init 49 = .ok (.aload_n 0, 1) := by decide +kernel
theorem dX7_init_50 : decode cX7_init 50 = .ok (.new 15, 3) := by decide +kernel
theorem dX7_init_53 : decode cX7_init 53 = .ok (.dup, 1) := by decide +kernel
theorem dX7_init_54 : decode cX7_init 54 = .ok (.iconst 4, 1) := by decide +kernel
theorem dX7_init_55 : decode cX7_init 55 = .ok (.invokespecial 17, 3) := by decide +kernel
theorem dX7_init_58 : decode cX7_init 58 = .ok (.putfield 30, 3) := by decide +kernel
theorem dX7_init_61 : decode cX7_init 61 = .ok (.aload_n 0, 1) := by decide +kernel
theorem dX7_init_62 : decode cX7_init 62 = .ok (.getfield 30, 3) := by decide +kernel
theorem dX7_init_65 : decode cX7_init 65 = .ok (.iconst 4, 1) := by decide +kernel
theorem dX7_init_66 : decode cX7_init 66 = .ok (.invokevirtual 33, 3) := by decide +kernel
theorem dX7_init_69 : decode cX7_init 69 = .ok (.aload_n 0, 1) := by decide +kernel
theorem dX7_init_70 : decode cX7_init 70 = .ok (.new 15, 3) := by decide +kernel
theorem dX7_init_73 : decode cX7_init 73 = .ok (.dup, 1) := by decide +kernel
theorem dX7_init_74 : decode cX7_init 74 = .ok (.bipush 40, 2) := by decide +kernel
theorem dX7_init_76 : decode cX7_init 76 = .ok (.invokespecial 17, 3) := by decide +kernel
theorem dX7_init_79 : decode cX7_init 79 = .ok (.putfield 36, 3) := by decide +kernel
theorem dX7_init_82 : decode cX7_init 82 = .ok (.aload_n 0, 1) := by decide +kernel
theorem dX7_init_83 : decode cX7_init 83 = .ok (.new 15, 3) := by decide +kernel
theorem dX7_init_86 : decode cX7_init 86 = .ok (.dup, 1) := by decide +kernel
theorem dX7_init_87 : decode cX7_init 87 = .ok (.bipush 30, 2) := by decide +kernel
theorem dX7_init_89 : decode cX7_init 89 = .ok (.invokespecial 17, 3) := by decide +kernel
theorem dX7_init_92 : decode cX7_init 92 = .ok (.putfield 39, 3) := by decide +kernel
theorem dX7_init_95 : decode cX7_init 95 = .ok (.aload_n 0, 1) := by decide +kernel
theorem dX7_init_96 : decode cX7_init 96 = .ok (.new 15, 3) := by decide +kernel
theorem dX7_init_99 : decode cX7_init 99 = .ok (.dup, 1) := by decide +kernel
theorem dX7_init_100 : decode cX7_init 100 = .ok (.bipush 30, 2) := by decide +kernel
theorem dX7_init_102 : decode cX7_init 102 = .ok (.invokespecial 17, 3) := by decide +kernel
theorem dX7_init_105 : decode cX7_init 105 = .ok (.putfield 42, 3) := by decide +kernel
theorem dX7_init_108 : decode cX7_init 108 = .ok (.aload_n 0, 1) := by decide +kernel
theorem dX7_init_109 : decode cX7_init 109 = .ok (.new 15, 3) := by decide +kernel
theorem dX7_init_112 : decode cX7_init 112 = .ok (.dup, 1) := by decide +kernel
theorem dX7_init_113 : decode cX7_init 113 = .ok (.bipush 30, 2) := by decide +kernel
theorem dX7_init_115 : decode cX7_init 115 = .ok (.invokespecial 17, 3) := by decide +kernel
theorem dX7_init_118 : decode cX7_init 118 = .ok (.putfield 45, 3) := by decide +kernel
theorem dX7_init_121 : decode cX7_init 121 = .ok (.aload_n 0, 1) := by decide +kernel
theorem dX7_init_122 : decode cX7_init 122 = .ok (.new 15, 3) := by decide +kernel
theorem dX7_init_125 : decode cX7_init 125 = .ok (.dup, 1) := by decide +kernel
theorem dX7_init_126 : decode cX7_init 126 = .ok (.bipush 40, 2) := by decide +kernel
theorem dX7_init_128 : decode cX7_init 128 = .ok (.invokespecial 17, 3) := by decide +kernel
theorem dX7_init_131 : decode cX7_init 131 = .ok (.putfield 48, 3) := by decide +kernel
theorem dX7_init_134 : decode cX7_init 134 = .ok (.aload_n 0, 1) := by decide +kernel
theorem dX7_init_135 : decode cX7_init 135 = .ok (.new 15, 3) := by decide +kernel
theorem dX7_init_138 : decode cX7_init 138 = .ok (.dup, 1) := by decide +kernel
theorem dX7_init_139 : decode cX7_init 139 = .ok (.bipush 40, 2) := by decide +kernel
theorem dX7_init_141 : decode cX7_init 141 = .ok (.invokespecial 17, 3) := by decide +kernel
theorem dX7_init_144 : decode cX7_init 144 = .ok (.putfield 51, 3) := by decide +kernel
theorem dX7_init_147 : decode cX7_init 147 = .ok (.return_, 1) := by decide +kernel
def fn_X7_init (N : Nat) (M : Mem) (a0 : Nat) : Option (Unit × Mem) :=
  (mm_pV M a0 7 2 (.int 100)).bind fun M1 =>
  mm_nm M1.length (M1 ++ [.inr (6, [.null, .int 0])]) fun b2 M3 =>
  mm_b2 (fn_X6_init N M3 b2 60) fun _ M4 =>
  (mm_pV M4 a0 7 5 (.ref b2)).bind fun M5 =>
  mm_nm M5.length (M5 ++ [.inr (6, [.null, .int 0])]) fun b6 M7 =>
  mm_b2 (fn_X6_init N M7 b6 20) fun _ M8 =>
  (mm_pV M8 a0 7 6 (.ref b6)).bind fun M9 =>
  mm_nm M9.length (M9 ++ [.inr (6, [.null, .int 0])]) fun b10 M11 =>
  mm_b2 (fn_X6_init N M11 b10 8) fun _ M12 =>
  (mm_pV M12 a0 7 7 (.ref b10)).bind fun M13 =>
  mm_nm M13.length (M13 ++ [.inr (6, [.null, .int 0])]) fun b14 M15 =>
  mm_b2 (fn_X6_init N M15 b14 4) fun _ M16 =>
  (mm_pV M16 a0 7 8 (.ref b14)).bind fun M17 =>
  (mm_gR M17 a0 7 8).bind fun b18 =>
  (mm_ck M17 b18 6).bind fun _ => mm_b2 (fn_X6_fillWithZeros N M17 b18 4) fun _ M19 =>
  mm_nm M19.length (M19 ++ [.inr (6, [.null, .int 0])]) fun b20 M21 =>
  mm_b2 (fn_X6_init N M21 b20 40) fun _ M22 =>
  (mm_pV M22 a0 7 9 (.ref b20)).bind fun M23 =>
  mm_nm M23.length (M23 ++ [.inr (6, [.null, .int 0])]) fun b24 M25 =>
  mm_b2 (fn_X6_init N M25 b24 30) fun _ M26 =>
  (mm_pV M26 a0 7 10 (.ref b24)).bind fun M27 =>
  mm_nm M27.length (M27 ++ [.inr (6, [.null, .int 0])]) fun b28 M29 =>
  mm_b2 (fn_X6_init N M29 b28 30) fun _ M30 =>
  (mm_pV M30 a0 7 11 (.ref b28)).bind fun M31 =>
  mm_nm M31.length (M31 ++ [.inr (6, [.null, .int 0])]) fun b32 M33 =>
  mm_b2 (fn_X6_init N M33 b32 30) fun _ M34 =>
  (mm_pV M34 a0 7 12 (.ref b32)).bind fun M35 =>
  mm_nm M35.length (M35 ++ [.inr (6, [.null, .int 0])]) fun b36 M37 =>
  mm_b2 (fn_X6_init N M37 b36 40) fun _ M38 =>
  (mm_pV M38 a0 7 13 (.ref b36)).bind fun M39 =>
  mm_nm M39.length (M39 ++ [.inr (6, [.null, .int 0])]) fun b40 M41 =>
  mm_b2 (fn_X6_init N M41 b40 40) fun _ M42 =>
  (mm_pV M42 a0 7 14 (.ref b40)).bind fun M43 =>
  some ((), M43)
set_option maxRecDepth 100000 in
set_option maxHeartbeats 4000000 in
theorem ct_X7_init {l : Launch} {ω : Wd} {N : Nat} {M : Mem} {a0 : Nat} {r : Unit} {M' : Mem} (h : fn_X7_init N M a0 = some (r, M')) : CM l ω 0 yX7_init cX7_init 1 none 4 20 620 [.ref a0] M none M' := by
  refine CM.of (by decide) (Nat.le_of_ble_eq_true rfl) fun Γ hl C hr hi => ?_
  subst hl
  unfold fn_X7_init at h
  refine jv_aload_n C dX7_init_0 rfl 0 rfl ?_
  refine jv_objInit C gw_272 gw_129 gw_130 (Nat.le_of_ble_eq_true rfl) dX7_init_1 ?_
  refine jv_aload_n C dX7_init_4 rfl 0 rfl ?_
  refine jv_bipush (v := 100) C dX7_init_5 (by decide) ?_
  refine jv_putI C fp_X7_9 dX7_init_7 h (fun M1 h => ?_)
  refine jv_aload_n C dX7_init_10 rfl 0 rfl ?_
  refine jv_new (ci := 6) (fs := [.null, .int 0]) (tf := tyX6) C rfl uw_X6 tyX6_ok gw_273 gw_180 gw_97 (fun j hj => nd_X6 ω j hj) (by decide) (by decide) dX7_init_11 ?_
  refine jv_name h (fun b2 M3 h => ?_)
  refine jv_dup C dX7_init_14 rfl ?_
  refine jv_bipush (v := 60) C dX7_init_15 (by decide) ?_
  refine jv_iV (As := [.int 60]) C lk_X7_17 dX7_init_17 rfl rfl (by decide) (by decide) (by decide) (Nat.le_of_ble_eq_true rfl) h (fun _ _ h => ct_X6_init h) (fun _ M4 h => ?_)
  refine jv_putFR C fp_X7_20 hi dX7_init_20 (fun _ => ⟨rfl, rfl⟩) h (fun M5 h => ?_)
  refine jv_aload_n C dX7_init_23 rfl 0 rfl ?_
  refine jv_new (ci := 6) (fs := [.null, .int 0]) (tf := tyX6) C rfl uw_X6 tyX6_ok gw_273 gw_180 gw_97 (fun j hj => nd_X6 ω j hj) (by decide) (by decide) dX7_init_24 ?_
  refine jv_name h (fun b6 M7 h => ?_)
  refine jv_dup C dX7_init_27 rfl ?_
  refine jv_bipush (v := 20) C dX7_init_28 (by decide) ?_
  refine jv_iV (As := [.int 20]) C lk_X7_17 dX7_init_30 rfl rfl (by decide) (by decide) (by decide) (Nat.le_of_ble_eq_true rfl) h (fun _ _ h => ct_X6_init h) (fun _ M8 h => ?_)
  refine jv_putFR C fp_X7_24 hi dX7_init_33 (fun _ => ⟨rfl, rfl⟩) h (fun M9 h => ?_)
  refine jv_aload_n C dX7_init_36 rfl 0 rfl ?_
  refine jv_new (ci := 6) (fs := [.null, .int 0]) (tf := tyX6) C rfl uw_X6 tyX6_ok gw_273 gw_180 gw_97 (fun j hj => nd_X6 ω j hj) (by decide) (by decide) dX7_init_37 ?_
  refine jv_name h (fun b10 M11 h => ?_)
  refine jv_dup C dX7_init_40 rfl ?_
  refine jv_bipush (v := 8) C dX7_init_41 (by decide) ?_
  refine jv_iV (As := [.int 8]) C lk_X7_17 dX7_init_43 rfl rfl (by decide) (by decide) (by decide) (Nat.le_of_ble_eq_true rfl) h (fun _ _ h => ct_X6_init h) (fun _ M12 h => ?_)
  refine jv_putFR C fp_X7_27 hi dX7_init_46 (fun _ => ⟨rfl, rfl⟩) h (fun M13 h => ?_)
  refine jv_aload_n C dX7_init_49 rfl 0 rfl ?_
  refine jv_new (ci := 6) (fs := [.null, .int 0]) (tf := tyX6) C rfl uw_X6 tyX6_ok gw_273 gw_180 gw_97 (fun j hj => nd_X6 ω j hj) (by decide) (by decide) dX7_init_50 ?_
  refine jv_name h (fun b14 M15 h => ?_)
  refine jv_dup C dX7_init_53 rfl ?_
  refine jv_iconst (v := 4) C dX7_init_54 (by decide) ?_
  refine jv_iV (As := [.int 4]) C lk_X7_17 dX7_init_55 rfl rfl (by decide) (by decide) (by decide) (Nat.le_of_ble_eq_true rfl) h (fun _ _ h => ct_X6_init h) (fun _ M16 h => ?_)
  refine jv_putFR C fp_X7_30 hi dX7_init_58 (fun _ => ⟨rfl, rfl⟩) h (fun M17 h => ?_)
  refine jv_aload_n C dX7_init_61 rfl 0 rfl ?_
  refine jv_getR C fa_X7_30 dX7_init_62 h (fun b18 h => ?_)
  refine jv_iconst (v := 4) C dX7_init_65 (by decide) ?_
  refine jv_vV0 (As := [.int 4]) C lk_X7_33 rfl dX7_init_66 rfl rfl (by decide) (by decide) (by decide) (Nat.le_of_ble_eq_true rfl) h (fun _ _ h => ct_X6_fillWithZeros h) (fun _ M19 h => ?_)
  refine jv_aload_n C dX7_init_69 rfl 0 rfl ?_
  refine jv_new (ci := 6) (fs := [.null, .int 0]) (tf := tyX6) C rfl uw_X6 tyX6_ok gw_273 gw_180 gw_97 (fun j hj => nd_X6 ω j hj) (by decide) (by decide) dX7_init_70 ?_
  refine jv_name h (fun b20 M21 h => ?_)
  refine jv_dup C dX7_init_73 rfl ?_
  refine jv_bipush (v := 40) C dX7_init_74 (by decide) ?_
  refine jv_iV (As := [.int 40]) C lk_X7_17 dX7_init_76 rfl rfl (by decide) (by decide) (by decide) (Nat.le_of_ble_eq_true rfl) h (fun _ _ h => ct_X6_init h) (fun _ M22 h => ?_)
  refine jv_putFR C fp_X7_36 hi dX7_init_79 (fun _ => ⟨rfl, rfl⟩) h (fun M23 h => ?_)
  refine jv_aload_n C dX7_init_82 rfl 0 rfl ?_
  refine jv_new (ci := 6) (fs := [.null, .int 0]) (tf := tyX6) C rfl uw_X6 tyX6_ok gw_273 gw_180 gw_97 (fun j hj => nd_X6 ω j hj) (by decide) (by decide) dX7_init_83 ?_
  refine jv_name h (fun b24 M25 h => ?_)
  refine jv_dup C dX7_init_86 rfl ?_
  refine jv_bipush (v := 30) C dX7_init_87 (by decide) ?_
  refine jv_iV (As := [.int 30]) C lk_X7_17 dX7_init_89 rfl rfl (by decide) (by decide) (by decide) (Nat.le_of_ble_eq_true rfl) h (fun _ _ h => ct_X6_init h) (fun _ M26 h => ?_)
  refine jv_putFR C fp_X7_39 hi dX7_init_92 (fun _ => ⟨rfl, rfl⟩) h (fun M27 h => ?_)
  refine jv_aload_n C dX7_init_95 rfl 0 rfl ?_
  refine jv_new (ci := 6) (fs := [.null, .int 0]) (tf := tyX6) C rfl uw_X6 tyX6_ok gw_273 gw_180 gw_97 (fun j hj => nd_X6 ω j hj) (by decide) (by decide) dX7_init_96 ?_
  refine jv_name h (fun b28 M29 h => ?_)
  refine jv_dup C dX7_init_99 rfl ?_
  refine jv_bipush (v := 30) C dX7_init_100 (by decide) ?_
  refine jv_iV (As := [.int 30]) C lk_X7_17 dX7_init_102 rfl rfl (by decide) (by decide) (by decide) (Nat.le_of_ble_eq_true rfl) h (fun _ _ h => ct_X6_init h) (fun _ M30 h => ?_)
  refine jv_putFR C fp_X7_42 hi dX7_init_105 (fun _ => ⟨rfl, rfl⟩) h (fun M31 h => ?_)
  refine jv_aload_n C dX7_init_108 rfl 0 rfl ?_
  refine jv_new (ci := 6) (fs := [.null, .int 0]) (tf := tyX6) C rfl uw_X6 tyX6_ok gw_273 gw_180 gw_97 (fun j hj => nd_X6 ω j hj) (by decide) (by decide) dX7_init_109 ?_
  refine jv_name h (fun b32 M33 h => ?_)
  refine jv_dup C dX7_init_112 rfl ?_
  refine jv_bipush (v := 30) C dX7_init_113 (by decide) ?_
  refine jv_iV (As := [.int 30]) C lk_X7_17 dX7_init_115 rfl rfl (by decide) (by decide) (by decide) (Nat.le_of_ble_eq_true rfl) h (fun _ _ h => ct_X6_init h) (fun _ M34 h => ?_)
  refine jv_putFR C fp_X7_45 hi dX7_init_118 (fun _ => ⟨rfl, rfl⟩) h (fun M35 h => ?_)
  refine jv_aload_n C dX7_init_121 rfl 0 rfl ?_
  refine jv_new (ci := 6) (fs := [.null, .int 0]) (tf := tyX6) C rfl uw_X6 tyX6_ok gw_273 gw_180 gw_97 (fun j hj => nd_X6 ω j hj) (by decide) (by decide) dX7_init_122 ?_
  refine jv_name h (fun b36 M37 h => ?_)
  refine jv_dup C dX7_init_125 rfl ?_
  refine jv_bipush (v := 40) C dX7_init_126 (by decide) ?_
  refine jv_iV (As := [.int 40]) C lk_X7_17 dX7_init_128 rfl rfl (by decide) (by decide) (by decide) (Nat.le_of_ble_eq_true rfl) h (fun _ _ h => ct_X6_init h) (fun _ M38 h => ?_)
  refine jv_putFR C fp_X7_48 hi dX7_init_131 (fun _ => ⟨rfl, rfl⟩) h (fun M39 h => ?_)
  refine jv_aload_n C dX7_init_134 rfl 0 rfl ?_
  refine jv_new (ci := 6) (fs := [.null, .int 0]) (tf := tyX6) C rfl uw_X6 tyX6_ok gw_273 gw_180 gw_97 (fun j hj => nd_X6 ω j hj) (by decide) (by decide) dX7_init_135 ?_
  refine jv_name h (fun b40 M41 h => ?_)
  refine jv_dup C dX7_init_138 rfl ?_
  refine jv_bipush (v := 40) C dX7_init_139 (by decide) ?_
  refine jv_iV (As := [.int 40]) C lk_X7_17 dX7_init_141 rfl rfl (by decide) (by decide) (by decide) (Nat.le_of_ble_eq_true rfl) h (fun _ _ h => ct_X6_init h) (fun _ M42 h => ?_)
  refine jv_putFR C fp_X7_51 hi dX7_init_144 (fun _ => ⟨rfl, rfl⟩) h (fun M43 h => ?_)
  exact jv_vret C hr dX7_init_147 h
theorem dX7_copyFrom_0 : decode cX7_copyFrom 0 = .ok (.aload_n 0, 1) := by decide +kernel
theorem dX7_copyFrom_1 : decode cX7_copyFrom 1 = .ok (.aload_n 1, 1) := by decide +kernel
theorem dX7_copyFrom_2 : decode cX7_copyFrom 2 = .ok (.getfield 54, 3) := by decide +kernel
theorem dX7_copyFrom_5 : decode cX7_copyFrom 5 = .ok (.putfield 54, 3) := by decide +kernel
theorem dX7_copyFrom_8 : decode cX7_copyFrom 8 = .ok (.aload_n 0, 1) := by decide +kernel
theorem dX7_copyFrom_9 : decode cX7_copyFrom 9 = .ok (.aload_n 1, 1) := by decide +kernel
theorem dX7_copyFrom_10 : decode cX7_copyFrom 10 = .ok (.getfield 57, 3) := by decide +kernel
theorem dX7_copyFrom_13 : decode cX7_copyFrom 13 = .ok (.putfield 57, 3) := by decide +kernel
theorem dX7_copyFrom_16 : decode cX7_copyFrom 16 = .ok (.aload_n 0, 1) := by decide +kernel
theorem dX7_copyFrom_17 : decode cX7_copyFrom 17 = .ok (.aload_n 1, 1) := by decide +kernel
theorem dX7_copyFrom_18 : decode cX7_copyFrom 18 = .ok (.getfield 9, 3) := by decide +kernel
theorem dX7_copyFrom_21 : decode cX7_copyFrom 21 = .ok (.putfield 9, 3) := by decide +kernel
theorem dX7_copyFrom_24 : decode cX7_copyFrom 24 = .ok (.aload_n 0, 1) := by decide +kernel
theorem dX7_copyFrom_25 : decode cX7_copyFrom 25 = .ok (.aload_n 1, 1) := by decide +kernel
theorem dX7_copyFrom_26 : decode cX7_copyFrom 26 = .ok (.getfield 63, 3) := by decide +kernel
theorem dX7_copyFrom_29 : decode cX7_copyFrom 29 = .ok (.putfield 63, 3) := by decide +kernel
theorem dX7_copyFrom_32 : decode cX7_copyFrom 32 = .ok (.aload_n 0, 1) := by decide +kernel
theorem dX7_copyFrom_33 : decode cX7_copyFrom 33 = .ok (.aload_n 1, 1) := by decide +kernel
theorem dX7_copyFrom_34 : decode cX7_copyFrom 34 = .ok (.getfield 67, 3) := by decide +kernel
theorem dX7_copyFrom_37 : decode cX7_copyFrom 37 = .ok (.putfield 67, 3) := by decide +kernel
theorem dX7_copyFrom_40 : decode cX7_copyFrom 40 = .ok (.aload_n 0, 1) := by decide +kernel
theorem dX7_copyFrom_41 : decode cX7_copyFrom 41 = .ok (.getfield 20, 3) := by decide +kernel
theorem dX7_copyFrom_44 : decode cX7_copyFrom 44 = .ok (.aload_n 1, 1) := by decide +kernel
theorem dX7_copyFrom_45 : decode cX7_copyFrom 45 = .ok (.getfield 20, 3) := by decide +kernel
theorem dX7_copyFrom_48 : decode cX7_copyFrom 48 = .ok (.invokevirtual 90, 3) := by decide +kernel
theorem dX7_copyFrom_51 : decode cX7_copyFrom 51 = .ok (.aload_n 0, 1) := by decide +kernel
theorem dX7_copyFrom_52 : decode cX7_copyFrom 52 = .ok (.getfield 24, 3) := by decide +kernel
theorem dX7_copyFrom_55 : decode cX7_copyFrom 55 = .ok (.aload_n 1, 1) := by decide +kernel
theorem dX7_copyFrom_56 : decode cX7_copyFrom 56 = .ok (.getfield 24, 3) := by decide +kernel
theorem dX7_copyFrom_59 : decode cX7_copyFrom 59 = .ok (.invokevirtual 90, 3) := by decide +kernel
theorem dX7_copyFrom_62 : decode cX7_copyFrom 62 = .ok (.aload_n 0, 1) := by decide +kernel
theorem dX7_copyFrom_63 : decode cX7_copyFrom 63 = .ok (.getfield 27, 3) := by decide +kernel
theorem dX7_copyFrom_66 : decode cX7_copyFrom 66 = .ok (.aload_n 1, 1) := by decide +kernel
theorem dX7_copyFrom_67 : decode cX7_copyFrom 67 = .ok (.getfield 27, 3) := by decide +kernel
theorem dX7_copyFrom_70 : decode cX7_copyFrom 70 = .ok (.invokevirtual 90, 3) := by decide +kernel
theorem dX7_copyFrom_73 : decode cX7_copyFrom 73 = .ok (.aload_n 0, 1) := by decide +kernel
theorem dX7_copyFrom_74 : decode cX7_copyFrom 74 = .ok (.getfield 30, 3) := by decide +kernel
theorem dX7_copyFrom_77 : decode cX7_copyFrom 77 = .ok (.aload_n 1, 1) := by decide +kernel
theorem dX7_copyFrom_78 : decode cX7_copyFrom 78 = .ok (.getfield 30, 3) := by decide +kernel
theorem dX7_copyFrom_81 : decode cX7_copyFrom 81 = .ok (.invokevirtual 90, 3) := by decide +kernel
theorem dX7_copyFrom_84 : decode cX7_copyFrom 84 = .ok (.aload_n 0, 1) := by decide +kernel
theorem dX7_copyFrom_85 : decode cX7_copyFrom 85 = .ok (.getfield 36, 3) := by decide +kernel
theorem dX7_copyFrom_88 : decode cX7_copyFrom 88 = .ok (.aload_n 1, 1) := by decide +kernel
theorem dX7_copyFrom_89 : decode cX7_copyFrom 89 = .ok (.getfield 36, 3) := by decide +kernel
theorem dX7_copyFrom_92 : decode cX7_copyFrom 92 = .ok (.invokevirtual 90, 3) := by decide +kernel
theorem dX7_copyFrom_95 : decode cX7_copyFrom 95 = .ok (.aload_n 0, 1) := by decide +kernel
theorem dX7_copyFrom_96 : decode cX7_copyFrom 96 = .ok (.getfield 39, 3) := by decide +kernel
theorem dX7_copyFrom_99 : decode cX7_copyFrom 99 = .ok (.aload_n 1, 1) := by decide +kernel
theorem dX7_copyFrom_100 : decode cX7_copyFrom 100 = .ok (.getfield 39, 3) := by decide +kernel
theorem dX7_copyFrom_103 : decode cX7_copyFrom 103 = .ok (.invokevirtual 90, 3) := by decide +kernel
theorem dX7_copyFrom_106 : decode cX7_copyFrom 106 = .ok (.aload_n 0, 1) := by decide +kernel
theorem dX7_copyFrom_107 : decode cX7_copyFrom 107 = .ok (.getfield 42, 3) := by decide +kernel
theorem dX7_copyFrom_110 : decode cX7_copyFrom 110 = .ok (.aload_n 1, 1) := by decide +kernel
theorem dX7_copyFrom_111 : decode cX7_copyFrom 111 = .ok (.getfield 42, 3) := by decide +kernel
theorem dX7_copyFrom_114 : decode cX7_copyFrom 114 = .ok (.invokevirtual 90, 3) := by decide +kernel
theorem dX7_copyFrom_117 : decode cX7_copyFrom 117 = .ok (.aload_n 0, 1) := by decide +kernel
theorem dX7_copyFrom_118 : decode cX7_copyFrom 118 = .ok (.getfield 45, 3) := by decide +kernel
theorem dX7_copyFrom_121 : decode cX7_copyFrom 121 = .ok (.aload_n 1, 1) := by decide +kernel
theorem dX7_copyFrom_122 : decode cX7_copyFrom 122 = .ok (.getfield 45, 3) := by decide +kernel
theorem dX7_copyFrom_125 : decode cX7_copyFrom 125 = .ok (.invokevirtual 90, 3) := by decide +kernel
theorem dX7_copyFrom_128 : decode cX7_copyFrom 128 = .ok (.aload_n 0, 1) := by decide +kernel
theorem dX7_copyFrom_129 : decode cX7_copyFrom 129 = .ok (.getfield 48, 3) := by decide +kernel
theorem dX7_copyFrom_132 : decode cX7_copyFrom 132 = .ok (.aload_n 1, 1) := by decide +kernel
theorem dX7_copyFrom_133 : decode cX7_copyFrom 133 = .ok (.getfield 48, 3) := by decide +kernel
theorem dX7_copyFrom_136 : decode cX7_copyFrom 136 = .ok (.invokevirtual 90, 3) := by decide +kernel
theorem dX7_copyFrom_139 : decode cX7_copyFrom 139 = .ok (.aload_n 0, 1) := by decide +kernel
theorem dX7_copyFrom_140 : decode cX7_copyFrom 140 = .ok (.getfield 51, 3) := by decide +kernel
theorem dX7_copyFrom_143 : decode cX7_copyFrom 143 = .ok (.aload_n 1, 1) := by decide +kernel
theorem dX7_copyFrom_144 : decode cX7_copyFrom 144 = .ok (.getfield 51, 3) := by decide +kernel
theorem dX7_copyFrom_147 : decode cX7_copyFrom 147 = .ok (.invokevirtual 90, 3) := by decide +kernel
theorem dX7_copyFrom_150 : decode cX7_copyFrom 150 = .ok (.return_, 1) := by decide +kernel
def fn_X7_copyFrom (N : Nat) (M : Mem) (a0 : Nat) (a1 : Nat) : Option (Unit × Mem) :=
  (mm_gI M a1 7 0).bind fun v1 =>
  (mm_pV M a0 7 0 (.int v1)).bind fun M2 =>
  (mm_gI M2 a1 7 1).bind fun v3 =>
  (mm_pV M2 a0 7 1 (.int v3)).bind fun M4 =>
  (mm_gI M4 a1 7 2).bind fun v5 =>
  (mm_pV M4 a0 7 2 (.int v5)).bind fun M6 =>
  (mm_gI M6 a1 7 3).bind fun v7 =>
  (mm_pZ M6 a0 7 3 v7).bind fun M8 =>
  (mm_gI M8 a1 7 4).bind fun v9 =>
  (mm_pV M8 a0 7 4 (.int v9)).bind fun M10 =>
  (mm_gR M10 a0 7 5).bind fun b11 =>
  (mm_gR M10 a1 7 5).bind fun b12 =>
  (mm_ck M10 b11 6).bind fun _ => mm_b2 (fn_X6_copyFrom N M10 b11 b12) fun _ M13 =>
  (mm_gR M13 a0 7 6).bind fun b14 =>
  (mm_gR M13 a1 7 6).bind fun b15 =>
  (mm_ck M13 b14 6).bind fun _ => mm_b2 (fn_X6_copyFrom N M13 b14 b15) fun _ M16 =>
  (mm_gR M16 a0 7 7).bind fun b17 =>
  (mm_gR M16 a1 7 7).bind fun b18 =>
  (mm_ck M16 b17 6).bind fun _ => mm_b2 (fn_X6_copyFrom N M16 b17 b18) fun _ M19 =>
  (mm_gR M19 a0 7 8).bind fun b20 =>
  (mm_gR M19 a1 7 8).bind fun b21 =>
  (mm_ck M19 b20 6).bind fun _ => mm_b2 (fn_X6_copyFrom N M19 b20 b21) fun _ M22 =>
  (mm_gR M22 a0 7 9).bind fun b23 =>
  (mm_gR M22 a1 7 9).bind fun b24 =>
  (mm_ck M22 b23 6).bind fun _ => mm_b2 (fn_X6_copyFrom N M22 b23 b24) fun _ M25 =>
  (mm_gR M25 a0 7 10).bind fun b26 =>
  (mm_gR M25 a1 7 10).bind fun b27 =>
  (mm_ck M25 b26 6).bind fun _ => mm_b2 (fn_X6_copyFrom N M25 b26 b27) fun _ M28 =>
  (mm_gR M28 a0 7 11).bind fun b29 =>
  (mm_gR M28 a1 7 11).bind fun b30 =>
  (mm_ck M28 b29 6).bind fun _ => mm_b2 (fn_X6_copyFrom N M28 b29 b30) fun _ M31 =>
  (mm_gR M31 a0 7 12).bind fun b32 =>
  (mm_gR M31 a1 7 12).bind fun b33 =>
  (mm_ck M31 b32 6).bind fun _ => mm_b2 (fn_X6_copyFrom N M31 b32 b33) fun _ M34 =>
  (mm_gR M34 a0 7 13).bind fun b35 =>
  (mm_gR M34 a1 7 13).bind fun b36 =>
  (mm_ck M34 b35 6).bind fun _ => mm_b2 (fn_X6_copyFrom N M34 b35 b36) fun _ M37 =>
  (mm_gR M37 a0 7 14).bind fun b38 =>
  (mm_gR M37 a1 7 14).bind fun b39 =>
  (mm_ck M37 b38 6).bind fun _ => mm_b2 (fn_X6_copyFrom N M37 b38 b39) fun _ M40 =>
  some ((), M40)
set_option maxRecDepth 100000 in
set_option maxHeartbeats 4000000 in
theorem ct_X7_copyFrom {l : Launch} {ω : Wd} {k N : Nat} {M : Mem} {a0 : Nat} {a1 : Nat} {r : Unit} {M' : Mem} (h : fn_X7_copyFrom N M a0 a1 = some (r, M')) : CM l ω k yX7_copyFrom cX7_copyFrom 2 none 2 0 0 [.ref a0, .ref a1] M none M' := by
  refine CM.of (by decide) (Nat.le_of_ble_eq_true rfl) fun Γ hl C hr hi => ?_
  subst hl
  unfold fn_X7_copyFrom at h
  refine jv_aload_n C dX7_copyFrom_0 rfl 0 rfl ?_
  refine jv_aload_n C dX7_copyFrom_1 rfl 1 rfl ?_
  refine jv_getI C fa_X7_54 dX7_copyFrom_2 h (fun v1 h => ?_)
  refine jv_putI C fp_X7_54 dX7_copyFrom_5 h (fun M2 h => ?_)
  refine jv_aload_n C dX7_copyFrom_8 rfl 0 rfl ?_
  refine jv_aload_n C dX7_copyFrom_9 rfl 1 rfl ?_
  refine jv_getI C fa_X7_57 dX7_copyFrom_10 h (fun v3 h => ?_)
  refine jv_putI C fp_X7_57 dX7_copyFrom_13 h (fun M4 h => ?_)
  refine jv_aload_n C dX7_copyFrom_16 rfl 0 rfl ?_
  refine jv_aload_n C dX7_copyFrom_17 rfl 1 rfl ?_
  refine jv_getI C fa_X7_9 dX7_copyFrom_18 h (fun v5 h => ?_)
  refine jv_putI C fp_X7_9 dX7_copyFrom_21 h (fun M6 h => ?_)
  refine jv_aload_n C dX7_copyFrom_24 rfl 0 rfl ?_
  refine jv_aload_n C dX7_copyFrom_25 rfl 1 rfl ?_
  refine jv_getI C fa_X7_63 dX7_copyFrom_26 h (fun v7 h => ?_)
  refine jv_putZ C fp_X7_63 dX7_copyFrom_29 h (fun M8 h => ?_)
  refine jv_aload_n C dX7_copyFrom_32 rfl 0 rfl ?_
  refine jv_aload_n C dX7_copyFrom_33 rfl 1 rfl ?_
  refine jv_getI C fa_X7_67 dX7_copyFrom_34 h (fun v9 h => ?_)
  refine jv_putI C fp_X7_67 dX7_copyFrom_37 h (fun M10 h => ?_)
  refine jv_aload_n C dX7_copyFrom_40 rfl 0 rfl ?_
  refine jv_getR C fa_X7_20 dX7_copyFrom_41 h (fun b11 h => ?_)
  refine jv_aload_n C dX7_copyFrom_44 rfl 1 rfl ?_
  refine jv_getR C fa_X7_20 dX7_copyFrom_45 h (fun b12 h => ?_)
  refine jv_vV0 (As := [.ref b12]) C lk_X7_90 rfl dX7_copyFrom_48 rfl rfl (by decide) (by decide) (by decide) (Nat.le_of_ble_eq_true rfl) h (fun _ _ h => ct_X6_copyFrom h) (fun _ M13 h => ?_)
  refine jv_aload_n C dX7_copyFrom_51 rfl 0 rfl ?_
  refine jv_getR C fa_X7_24 dX7_copyFrom_52 h (fun b14 h => ?_)
  refine jv_aload_n C dX7_copyFrom_55 rfl 1 rfl ?_
  refine jv_getR C fa_X7_24 dX7_copyFrom_56 h (fun b15 h => ?_)
  refine jv_vV0 (As := [.ref b15]) C lk_X7_90 rfl dX7_copyFrom_59 rfl rfl (by decide) (by decide) (by decide) (Nat.le_of_ble_eq_true rfl) h (fun _ _ h => ct_X6_copyFrom h) (fun _ M16 h => ?_)
  refine jv_aload_n C dX7_copyFrom_62 rfl 0 rfl ?_
  refine jv_getR C fa_X7_27 dX7_copyFrom_63 h (fun b17 h => ?_)
  refine jv_aload_n C dX7_copyFrom_66 rfl 1 rfl ?_
  refine jv_getR C fa_X7_27 dX7_copyFrom_67 h (fun b18 h => ?_)
  refine jv_vV0 (As := [.ref b18]) C lk_X7_90 rfl dX7_copyFrom_70 rfl rfl (by decide) (by decide) (by decide) (Nat.le_of_ble_eq_true rfl) h (fun _ _ h => ct_X6_copyFrom h) (fun _ M19 h => ?_)
  refine jv_aload_n C dX7_copyFrom_73 rfl 0 rfl ?_
  refine jv_getR C fa_X7_30 dX7_copyFrom_74 h (fun b20 h => ?_)
  refine jv_aload_n C dX7_copyFrom_77 rfl 1 rfl ?_
  refine jv_getR C fa_X7_30 dX7_copyFrom_78 h (fun b21 h => ?_)
  refine jv_vV0 (As := [.ref b21]) C lk_X7_90 rfl dX7_copyFrom_81 rfl rfl (by decide) (by decide) (by decide) (Nat.le_of_ble_eq_true rfl) h (fun _ _ h => ct_X6_copyFrom h) (fun _ M22 h => ?_)
  refine jv_aload_n C dX7_copyFrom_84 rfl 0 rfl ?_
  refine jv_getR C fa_X7_36 dX7_copyFrom_85 h (fun b23 h => ?_)
  refine jv_aload_n C dX7_copyFrom_88 rfl 1 rfl ?_
  refine jv_getR C fa_X7_36 dX7_copyFrom_89 h (fun b24 h => ?_)
  refine jv_vV0 (As := [.ref b24]) C lk_X7_90 rfl dX7_copyFrom_92 rfl rfl (by decide) (by decide) (by decide) (Nat.le_of_ble_eq_true rfl) h (fun _ _ h => ct_X6_copyFrom h) (fun _ M25 h => ?_)
  refine jv_aload_n C dX7_copyFrom_95 rfl 0 rfl ?_
  refine jv_getR C fa_X7_39 dX7_copyFrom_96 h (fun b26 h => ?_)
  refine jv_aload_n C dX7_copyFrom_99 rfl 1 rfl ?_
  refine jv_getR C fa_X7_39 dX7_copyFrom_100 h (fun b27 h => ?_)
  refine jv_vV0 (As := [.ref b27]) C lk_X7_90 rfl dX7_copyFrom_103 rfl rfl (by decide) (by decide) (by decide) (Nat.le_of_ble_eq_true rfl) h (fun _ _ h => ct_X6_copyFrom h) (fun _ M28 h => ?_)
  refine jv_aload_n C dX7_copyFrom_106 rfl 0 rfl ?_
  refine jv_getR C fa_X7_42 dX7_copyFrom_107 h (fun b29 h => ?_)
  refine jv_aload_n C dX7_copyFrom_110 rfl 1 rfl ?_
  refine jv_getR C fa_X7_42 dX7_copyFrom_111 h (fun b30 h => ?_)
  refine jv_vV0 (As := [.ref b30]) C lk_X7_90 rfl dX7_copyFrom_114 rfl rfl (by decide) (by decide) (by decide) (Nat.le_of_ble_eq_true rfl) h (fun _ _ h => ct_X6_copyFrom h) (fun _ M31 h => ?_)
  refine jv_aload_n C dX7_copyFrom_117 rfl 0 rfl ?_
  refine jv_getR C fa_X7_45 dX7_copyFrom_118 h (fun b32 h => ?_)
  refine jv_aload_n C dX7_copyFrom_121 rfl 1 rfl ?_
  refine jv_getR C fa_X7_45 dX7_copyFrom_122 h (fun b33 h => ?_)
  refine jv_vV0 (As := [.ref b33]) C lk_X7_90 rfl dX7_copyFrom_125 rfl rfl (by decide) (by decide) (by decide) (Nat.le_of_ble_eq_true rfl) h (fun _ _ h => ct_X6_copyFrom h) (fun _ M34 h => ?_)
  refine jv_aload_n C dX7_copyFrom_128 rfl 0 rfl ?_
  refine jv_getR C fa_X7_48 dX7_copyFrom_129 h (fun b35 h => ?_)
  refine jv_aload_n C dX7_copyFrom_132 rfl 1 rfl ?_
  refine jv_getR C fa_X7_48 dX7_copyFrom_133 h (fun b36 h => ?_)
  refine jv_vV0 (As := [.ref b36]) C lk_X7_90 rfl dX7_copyFrom_136 rfl rfl (by decide) (by decide) (by decide) (Nat.le_of_ble_eq_true rfl) h (fun _ _ h => ct_X6_copyFrom h) (fun _ M37 h => ?_)
  refine jv_aload_n C dX7_copyFrom_139 rfl 0 rfl ?_
  refine jv_getR C fa_X7_51 dX7_copyFrom_140 h (fun b38 h => ?_)
  refine jv_aload_n C dX7_copyFrom_143 rfl 1 rfl ?_
  refine jv_getR C fa_X7_51 dX7_copyFrom_144 h (fun b39 h => ?_)
  refine jv_vV0 (As := [.ref b39]) C lk_X7_90 rfl dX7_copyFrom_147 rfl rfl (by decide) (by decide) (by decide) (Nat.le_of_ble_eq_true rfl) h (fun _ _ h => ct_X6_copyFrom h) (fun _ M40 h => ?_)
  exact jv_vret C hr dX7_copyFrom_150 h
theorem dX7_addRecord_0 : decode cX7_addRecord 0 = .ok (.aload_n 0, 1) := by decide +kernel
theorem dX7_addRecord_1 : decode cX7_addRecord 1 = .ok (.getfield 36, 3) := by decide +kernel
theorem dX7_addRecord_4 : decode cX7_addRecord 4 = .ok (.invokevirtual 79, 3) := by decide +kernel
theorem dX7_addRecord_7 : decode cX7_addRecord 7 = .ok (.ifCond .eq 12, 3) := by decide +kernel
theorem dX7_addRecord_10 : decode cX7_addRecord 10 = .ok (.aload_n 0, 1) := by decide +kernel
theorem dX7_addRecord_11 : decode cX7_addRecord 11 = .ok (.getfield 36, 3) := by decide +kernel
theorem dX7_addRecord_14 : decode cX7_addRecord 14 = .ok (.iconst 0, 1) := by decide +kernel
theorem dX7_addRecord_15 : decode cX7_addRecord 15 = .ok (.invokevirtual 83, 3) := by decide +kernel
theorem dX7_addRecord_18 : decode cX7_addRecord 18 = .ok (.pop, 1) := by decide +kernel
theorem dX7_addRecord_19 : decode cX7_addRecord 19 = .ok (.aload_n 0, 1) := by decide +kernel
theorem dX7_addRecord_20 : decode cX7_addRecord 20 = .ok (.getfield 36, 3) := by decide +kernel
theorem dX7_addRecord_23 : decode cX7_addRecord 23 = .ok (.iload_n 1, 1) := by decide +kernel
theorem dX7_addRecord_24 : decode cX7_addRecord 24 = .ok (.invokevirtual 87, 3) := by decide +kernel
theorem dX7_addRecord_27 : decode cX7_addRecord 27 = .ok (.return_, 1) := by decide +kernel
def fn_X7_addRecord (N : Nat) (M : Mem) (a0 : Nat) (x1 : Int32) : Option (Unit × Mem) :=
  (mm_gR M a0 7 9).bind fun b1 =>
  (mm_ck M b1 6).bind fun _ => mm_b2 (fn_X6_isFull N M b1) fun v3 M2 =>
  if v3 = 0 then
    (mm_gR M2 a0 7 9).bind fun b4 =>
    (mm_ck M2 b4 6).bind fun _ => mm_b2 (fn_X6_add N M2 b4 x1) fun _ M5 =>
    some ((), M5)
  else
    (mm_gR M2 a0 7 9).bind fun b6 =>
    (mm_ck M2 b6 6).bind fun _ => mm_b2 (fn_X6_removeAt N M2 b6 0) fun v8 M7 =>
    (mm_gR M7 a0 7 9).bind fun b9 =>
    (mm_ck M7 b9 6).bind fun _ => mm_b2 (fn_X6_add N M7 b9 x1) fun _ M10 =>
    some ((), M10)
set_option maxRecDepth 100000 in
set_option maxHeartbeats 4000000 in
theorem ct_X7_addRecord {l : Launch} {ω : Wd} {k N : Nat} {M : Mem} {a0 : Nat} {x1 : Int32} {r : Unit} {M' : Mem} (h : fn_X7_addRecord N M a0 x1 = some (r, M')) : CM l ω k yX7_addRecord cX7_addRecord 2 none 2 0 0 [.ref a0, .int x1] M none M' := by
  refine CM.of (by decide) (Nat.le_of_ble_eq_true rfl) fun Γ hl C hr hi => ?_
  subst hl
  unfold fn_X7_addRecord at h
  refine jv_aload_n C dX7_addRecord_0 rfl 0 rfl ?_
  refine jv_getR C fa_X7_36 dX7_addRecord_1 h (fun b1 h => ?_)
  refine jv_vI0 (As := []) C lk_X7_79 rfl dX7_addRecord_4 rfl rfl (by decide) (by decide) (by decide) (Nat.le_of_ble_eq_true rfl) h (fun _ _ h => ct_X6_isFull h) (fun v3 M2 h => ?_)
  refine jv_if_eq (tgt := 19) C dX7_addRecord_7 (by decide) h (fun h => ?_) (fun h => ?_)
  · refine jv_aload_n C dX7_addRecord_19 rfl 0 rfl ?_
    refine jv_getR C fa_X7_36 dX7_addRecord_20 h (fun b4 h => ?_)
    refine jv_iload_n C dX7_addRecord_23 rfl 1 rfl ?_
    refine jv_vV0 (As := [.int x1]) C lk_X7_87 rfl dX7_addRecord_24 rfl rfl (by decide) (by decide) (by decide) (Nat.le_of_ble_eq_true rfl) h (fun _ _ h => ct_X6_add h) (fun _ M5 h => ?_)
    exact jv_vret C hr dX7_addRecord_27 h
  · refine jv_aload_n C dX7_addRecord_10 rfl 0 rfl ?_
    refine jv_getR C fa_X7_36 dX7_addRecord_11 h (fun b6 h => ?_)
    refine jv_iconst (v := 0) C dX7_addRecord_14 (by decide) ?_
    refine jv_vI0 (As := [.int 0]) C lk_X7_83 rfl dX7_addRecord_15 rfl rfl (by decide) (by decide) (by decide) (Nat.le_of_ble_eq_true rfl) h (fun _ _ h => ct_X6_removeAt h) (fun v8 M7 h => ?_)
    refine jv_pop C dX7_addRecord_18 rfl ?_
    refine jv_aload_n C dX7_addRecord_19 rfl 0 rfl ?_
    refine jv_getR C fa_X7_36 dX7_addRecord_20 h (fun b9 h => ?_)
    refine jv_iload_n C dX7_addRecord_23 rfl 1 rfl ?_
    refine jv_vV0 (As := [.int x1]) C lk_X7_87 rfl dX7_addRecord_24 rfl rfl (by decide) (by decide) (by decide) (Nat.le_of_ble_eq_true rfl) h (fun _ _ h => ct_X6_add h) (fun _ M10 h => ?_)
    exact jv_vret C hr dX7_addRecord_27 h
theorem dX7_reset_0 : decode cX7_reset 0 = .ok (.aload_n 0, 1) := by decide +kernel
theorem dX7_reset_1 : decode cX7_reset 1 = .ok (.iconst 0, 1) := by decide +kernel
theorem dX7_reset_2 : decode cX7_reset 2 = .ok (.putfield 54, 3) := by decide +kernel
theorem dX7_reset_5 : decode cX7_reset 5 = .ok (.aload_n 0, 1) := by decide +kernel
theorem dX7_reset_6 : decode cX7_reset 6 = .ok (.iconst 0, 1) := by decide +kernel
theorem dX7_reset_7 : decode cX7_reset 7 = .ok (.putfield 57, 3) := by decide +kernel
theorem dX7_reset_10 : decode cX7_reset 10 = .ok (.aload_n 0, 1) := by decide +kernel
theorem dX7_reset_11 : decode cX7_reset 11 = .ok (.aload_n 1, 1) := by decide +kernel
theorem dX7_reset_12 : decode cX7_reset 12 = .ok (.getfield 60, 3) := by decide +kernel
theorem dX7_reset_15 : decode cX7_reset 15 = .ok (.putfield 9, 3) := by decide +kernel
theorem dX7_reset_18 : decode cX7_reset 18 = .ok (.aload_n 0, 1) := by decide +kernel
theorem dX7_reset_19 : decode cX7_reset 19 = .ok (.iconst 0, 1) := by decide +kernel
theorem dX7_reset_20 : decode cX7_reset 20 = .ok (.putfield 63, 3) := by decide +kernel
theorem dX7_reset_23 : decode cX7_reset 23 = .ok (.aload_n 0, 1) := by decide +kernel
theorem dX7_reset_24 : decode cX7_reset 24 = .ok (.iconst 0, 1) := by decide +kernel
theorem dX7_reset_25 : decode cX7_reset 25 = .ok (.putfield 67, 3) := by decide +kernel
theorem dX7_reset_28 : decode cX7_reset 28 = .ok (.aload_n 0, 1) := by decide +kernel
theorem dX7_reset_29 : decode cX7_reset 29 = .ok (.getfield 20, 3) := by decide +kernel
theorem dX7_reset_32 : decode cX7_reset 32 = .ok (.invokevirtual 70, 3) := by decide +kernel
theorem dX7_reset_35 : decode cX7_reset 35 = .ok (.aload_n 0, 1) := by decide +kernel
theorem dX7_reset_36 : decode cX7_reset 36 = .ok (.getfield 24, 3) := by decide +kernel
theorem dX7_reset_39 : decode cX7_reset 39 = .ok (.invokevirtual 70, 3) := by decide +kernel
theorem dX7_reset_42 : decode cX7_reset 42 = .ok (.aload_n 0, 1) := by decide +kernel
theorem dX7_reset_43 : decode cX7_reset 43 = .ok (.getfield 27, 3) := by decide +kernel
theorem dX7_reset_46 : decode cX7_reset 46 = .ok (.aload_n 1, 1) := by decide +kernel
theorem dX7_reset_47 : decode cX7_reset 47 = .ok (.getfield 73, 3) := by decide +kernel
theorem dX7_reset_50 : decode cX7_reset 50 = .ok (.getfield 76, 3) := by decide +kernel
theorem dX7_reset_53 : decode cX7_reset 53 = .ok (.invokevirtual 33, 3) := by decide +kernel
theorem dX7_reset_56 : decode cX7_reset 56 = .ok (.aload_n 0, 1) := by decide +kernel
theorem dX7_reset_57 : decode cX7_reset 57 = .ok (.getfield 30, 3) := by decide +kernel
theorem dX7_reset_60 : decode cX7_reset 60 = .ok (.iconst 4, 1) := by decide +kernel
theorem dX7_reset_61 : decode cX7_reset 61 = .ok (.invokevirtual 33, 3) := by decide +kernel
theorem dX7_reset_64 : decode cX7_reset 64 = .ok (.aload_n 0, 1) := by decide +kernel
theorem dX7_reset_65 : decode cX7_reset 65 = .ok (.getfield 36, 3) := by decide +kernel
theorem dX7_reset_68 : decode cX7_reset 68 = .ok (.invokevirtual 70, 3) := by decide +kernel
theorem dX7_reset_71 : decode cX7_reset 71 = .ok (.aload_n 0, 1) := by decide +kernel
theorem dX7_reset_72 : decode cX7_reset 72 = .ok (.getfield 39, 3) := by decide +kernel
theorem dX7_reset_75 : decode cX7_reset 75 = .ok (.invokevirtual 70, 3) := by decide +kernel
theorem dX7_reset_78 : decode cX7_reset 78 = .ok (.aload_n 0, 1) := by decide +kernel
theorem dX7_reset_79 : decode cX7_reset 79 = .ok (.getfield 42, 3) := by decide +kernel
theorem dX7_reset_82 : decode cX7_reset 82 = .ok (.invokevirtual 70, 3) := by decide +kernel
theorem dX7_reset_85 : decode cX7_reset 85 = .ok (.aload_n 0, 1) := by decide +kernel
theorem dX7_reset_86 : decode cX7_reset 86 = .ok (.getfield 45, 3) := by decide +kernel
theorem dX7_reset_89 : decode cX7_reset 89 = .ok (.invokevirtual 70, 3) := by decide +kernel
theorem dX7_reset_92 : decode cX7_reset 92 = .ok (.aload_n 0, 1) := by decide +kernel
theorem dX7_reset_93 : decode cX7_reset 93 = .ok (.getfield 48, 3) := by decide +kernel
theorem dX7_reset_96 : decode cX7_reset 96 = .ok (.invokevirtual 70, 3) := by decide +kernel
theorem dX7_reset_99 : decode cX7_reset 99 = .ok (.aload_n 0, 1) := by decide +kernel
theorem dX7_reset_100 : decode cX7_reset 100 = .ok (.getfield 51, 3) := by decide +kernel
theorem dX7_reset_103 : decode cX7_reset 103 = .ok (.invokevirtual 70, 3) := by decide +kernel
theorem dX7_reset_106 : decode cX7_reset 106 = .ok (.return_, 1) := by decide +kernel
def fn_X7_reset (N : Nat) (M : Mem) (a0 : Nat) (a1 : Nat) : Option (Unit × Mem) :=
  (mm_pV M a0 7 0 (.int 0)).bind fun M1 =>
  (mm_pV M1 a0 7 1 (.int 0)).bind fun M2 =>
  (mm_gI M2 a1 0 6).bind fun v3 =>
  (mm_pV M2 a0 7 2 (.int v3)).bind fun M4 =>
  (mm_pZ M4 a0 7 3 0).bind fun M5 =>
  (mm_pV M5 a0 7 4 (.int 0)).bind fun M6 =>
  (mm_gR M6 a0 7 5).bind fun b7 =>
  (mm_ck M6 b7 6).bind fun _ => mm_b2 (fn_X6_empty N M6 b7) fun _ M8 =>
  (mm_gR M8 a0 7 6).bind fun b9 =>
  (mm_ck M8 b9 6).bind fun _ => mm_b2 (fn_X6_empty N M8 b9) fun _ M10 =>
  (mm_gR M10 a0 7 7).bind fun b11 =>
  (mm_gR M10 a1 0 2).bind fun b12 =>
  (mm_gI M10 b12 6 1).bind fun v13 =>
  (mm_ck M10 b11 6).bind fun _ => mm_b2 (fn_X6_fillWithZeros N M10 b11 v13) fun _ M14 =>
  (mm_gR M14 a0 7 8).bind fun b15 =>
  (mm_ck M14 b15 6).bind fun _ => mm_b2 (fn_X6_fillWithZeros N M14 b15 4) fun _ M16 =>
  (mm_gR M16 a0 7 9).bind fun b17 =>
  (mm_ck M16 b17 6).bind fun _ => mm_b2 (fn_X6_empty N M16 b17) fun _ M18 =>
  (mm_gR M18 a0 7 10).bind fun b19 =>
  (mm_ck M18 b19 6).bind fun _ => mm_b2 (fn_X6_empty N M18 b19) fun _ M20 =>
  (mm_gR M20 a0 7 11).bind fun b21 =>
  (mm_ck M20 b21 6).bind fun _ => mm_b2 (fn_X6_empty N M20 b21) fun _ M22 =>
  (mm_gR M22 a0 7 12).bind fun b23 =>
  (mm_ck M22 b23 6).bind fun _ => mm_b2 (fn_X6_empty N M22 b23) fun _ M24 =>
  (mm_gR M24 a0 7 13).bind fun b25 =>
  (mm_ck M24 b25 6).bind fun _ => mm_b2 (fn_X6_empty N M24 b25) fun _ M26 =>
  (mm_gR M26 a0 7 14).bind fun b27 =>
  (mm_ck M26 b27 6).bind fun _ => mm_b2 (fn_X6_empty N M26 b27) fun _ M28 =>
  some ((), M28)
set_option maxRecDepth 100000 in
set_option maxHeartbeats 4000000 in
theorem ct_X7_reset {l : Launch} {ω : Wd} {k N : Nat} {M : Mem} {a0 : Nat} {a1 : Nat} {r : Unit} {M' : Mem} (h : fn_X7_reset N M a0 a1 = some (r, M')) : CM l ω k yX7_reset cX7_reset 2 none 4 0 0 [.ref a0, .ref a1] M none M' := by
  refine CM.of (by decide) (Nat.le_of_ble_eq_true rfl) fun Γ hl C hr hi => ?_
  subst hl
  unfold fn_X7_reset at h
  refine jv_aload_n C dX7_reset_0 rfl 0 rfl ?_
  refine jv_iconst (v := 0) C dX7_reset_1 (by decide) ?_
  refine jv_putI C fp_X7_54 dX7_reset_2 h (fun M1 h => ?_)
  refine jv_aload_n C dX7_reset_5 rfl 0 rfl ?_
  refine jv_iconst (v := 0) C dX7_reset_6 (by decide) ?_
  refine jv_putI C fp_X7_57 dX7_reset_7 h (fun M2 h => ?_)
  refine jv_aload_n C dX7_reset_10 rfl 0 rfl ?_
  refine jv_aload_n C dX7_reset_11 rfl 1 rfl ?_
  refine jv_getI C fa_X7_60 dX7_reset_12 h (fun v3 h => ?_)
  refine jv_putI C fp_X7_9 dX7_reset_15 h (fun M4 h => ?_)
  refine jv_aload_n C dX7_reset_18 rfl 0 rfl ?_
  refine jv_iconst (v := 0) C dX7_reset_19 (by decide) ?_
  refine jv_putZ C fp_X7_63 dX7_reset_20 h (fun M5 h => ?_)
  refine jv_aload_n C dX7_reset_23 rfl 0 rfl ?_
  refine jv_iconst (v := 0) C dX7_reset_24 (by decide) ?_
  refine jv_putI C fp_X7_67 dX7_reset_25 h (fun M6 h => ?_)
  refine jv_aload_n C dX7_reset_28 rfl 0 rfl ?_
  refine jv_getR C fa_X7_20 dX7_reset_29 h (fun b7 h => ?_)
  refine jv_vV0 (As := []) C lk_X7_70 rfl dX7_reset_32 rfl rfl (by decide) (by decide) (by decide) (Nat.le_of_ble_eq_true rfl) h (fun _ _ h => ct_X6_empty h) (fun _ M8 h => ?_)
  refine jv_aload_n C dX7_reset_35 rfl 0 rfl ?_
  refine jv_getR C fa_X7_24 dX7_reset_36 h (fun b9 h => ?_)
  refine jv_vV0 (As := []) C lk_X7_70 rfl dX7_reset_39 rfl rfl (by decide) (by decide) (by decide) (Nat.le_of_ble_eq_true rfl) h (fun _ _ h => ct_X6_empty h) (fun _ M10 h => ?_)
  refine jv_aload_n C dX7_reset_42 rfl 0 rfl ?_
  refine jv_getR C fa_X7_27 dX7_reset_43 h (fun b11 h => ?_)
  refine jv_aload_n C dX7_reset_46 rfl 1 rfl ?_
  refine jv_getR C fa_X7_73 dX7_reset_47 h (fun b12 h => ?_)
  refine jv_getI C fa_X7_76 dX7_reset_50 h (fun v13 h => ?_)
  refine jv_vV0 (As := [.int v13]) C lk_X7_33 rfl dX7_reset_53 rfl rfl (by decide) (by decide) (by decide) (Nat.le_of_ble_eq_true rfl) h (fun _ _ h => ct_X6_fillWithZeros h) (fun _ M14 h => ?_)
  refine jv_aload_n C dX7_reset_56 rfl 0 rfl ?_
  refine jv_getR C fa_X7_30 dX7_reset_57 h (fun b15 h => ?_)
  refine jv_iconst (v := 4) C dX7_reset_60 (by decide) ?_
  refine jv_vV0 (As := [.int 4]) C lk_X7_33 rfl dX7_reset_61 rfl rfl (by decide) (by decide) (by decide) (Nat.le_of_ble_eq_true rfl) h (fun _ _ h => ct_X6_fillWithZeros h) (fun _ M16 h => ?_)
  refine jv_aload_n C dX7_reset_64 rfl 0 rfl ?_
  refine jv_getR C fa_X7_36 dX7_reset_65 h (fun b17 h => ?_)
  refine jv_vV0 (As := []) C lk_X7_70 rfl dX7_reset_68 rfl rfl (by decide) (by decide) (by decide) (Nat.le_of_ble_eq_true rfl) h (fun _ _ h => ct_X6_empty h) (fun _ M18 h => ?_)
  refine jv_aload_n C dX7_reset_71 rfl 0 rfl ?_
  refine jv_getR C fa_X7_39 dX7_reset_72 h (fun b19 h => ?_)
  refine jv_vV0 (As := []) C lk_X7_70 rfl dX7_reset_75 rfl rfl (by decide) (by decide) (by decide) (Nat.le_of_ble_eq_true rfl) h (fun _ _ h => ct_X6_empty h) (fun _ M20 h => ?_)
  refine jv_aload_n C dX7_reset_78 rfl 0 rfl ?_
  refine jv_getR C fa_X7_42 dX7_reset_79 h (fun b21 h => ?_)
  refine jv_vV0 (As := []) C lk_X7_70 rfl dX7_reset_82 rfl rfl (by decide) (by decide) (by decide) (Nat.le_of_ble_eq_true rfl) h (fun _ _ h => ct_X6_empty h) (fun _ M22 h => ?_)
  refine jv_aload_n C dX7_reset_85 rfl 0 rfl ?_
  refine jv_getR C fa_X7_45 dX7_reset_86 h (fun b23 h => ?_)
  refine jv_vV0 (As := []) C lk_X7_70 rfl dX7_reset_89 rfl rfl (by decide) (by decide) (by decide) (Nat.le_of_ble_eq_true rfl) h (fun _ _ h => ct_X6_empty h) (fun _ M24 h => ?_)
  refine jv_aload_n C dX7_reset_92 rfl 0 rfl ?_
  refine jv_getR C fa_X7_48 dX7_reset_93 h (fun b25 h => ?_)
  refine jv_vV0 (As := []) C lk_X7_70 rfl dX7_reset_96 rfl rfl (by decide) (by decide) (by decide) (Nat.le_of_ble_eq_true rfl) h (fun _ _ h => ct_X6_empty h) (fun _ M26 h => ?_)
  refine jv_aload_n C dX7_reset_99 rfl 0 rfl ?_
  refine jv_getR C fa_X7_51 dX7_reset_100 h (fun b27 h => ?_)
  refine jv_vV0 (As := []) C lk_X7_70 rfl dX7_reset_103 rfl rfl (by decide) (by decide) (by decide) (Nat.le_of_ble_eq_true rfl) h (fun _ _ h => ct_X6_empty h) (fun _ M28 h => ?_)
  exact jv_vret C hr dX7_reset_106 h
