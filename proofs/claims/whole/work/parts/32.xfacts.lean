theorem gw_104 : Cond.initialized "java/lang/IllegalArgumentException" ∈ gd_L := gd_at 104 (by decide +kernel) (by decide +kernel)
theorem gw_115 : Cond.initialized "java/lang/IndexOutOfBoundsException" ∈ gd_L := gd_at 115 (by decide +kernel) (by decide +kernel)
theorem gw_122 : Cond.initialized "java/lang/IllegalStateException" ∈ gd_L := gd_at 122 (by decide +kernel) (by decide +kernel)
theorem gw_1287 : Cond.classLink "CoinSorter" 143 "java/lang/IndexOutOfBoundsException" ∈ gd_L := gd_at 1287 (by decide +kernel) (by decide +kernel)
theorem gw_1300 : Cond.classLink "CoinSorter" 154 "java/lang/IllegalArgumentException" ∈ gd_L := gd_at 1300 (by decide +kernel) (by decide +kernel)
theorem gw_1322 : Cond.classLink "CoinSorter" 331 "java/lang/IllegalStateException" ∈ gd_L := gd_at 1322 (by decide +kernel) (by decide +kernel)
theorem ta_X9_143 : ∀ w ∈ vx_atS RX9 147 "java/lang/IndexOutOfBoundsException" ["java/lang/RuntimeException", "java/lang/Exception"], w ∈ gd_L ∨ w ∈ ns_L := by
  intro w hw
  have h := List.all_eq_true.mp (show (vx_atS RX9 147 "java/lang/IndexOutOfBoundsException" ["java/lang/RuntimeException", "java/lang/Exception"]).all (fun w => decide (w ∈ gd_L) || decide (w ∈ ns_L)) = true by decide +kernel) w hw
  simpa using h
theorem ta_X9_154 : ∀ w ∈ vx_atS RX9 158 "java/lang/IllegalArgumentException" ["java/lang/RuntimeException", "java/lang/Exception"], w ∈ gd_L ∨ w ∈ ns_L := by
  intro w hw
  have h := List.all_eq_true.mp (show (vx_atS RX9 158 "java/lang/IllegalArgumentException" ["java/lang/RuntimeException", "java/lang/Exception"]).all (fun w => decide (w ∈ gd_L) || decide (w ∈ ns_L)) = true by decide +kernel) w hw
  simpa using h
theorem ta_X9_331 : ∀ w ∈ vx_atS RX9 335 "java/lang/IllegalStateException" ["java/lang/RuntimeException", "java/lang/Exception"], w ∈ gd_L ∨ w ∈ ns_L := by
  intro w hw
  have h := List.all_eq_true.mp (show (vx_atS RX9 335 "java/lang/IllegalStateException" ["java/lang/RuntimeException", "java/lang/Exception"]).all (fun w => decide (w ∈ gd_L) || decide (w ∈ ns_L)) = true by decide +kernel) w hw
  simpa using h
theorem th_X9_143_145 : jv_TH RX9 143 145 147 "java/lang/IndexOutOfBoundsException" "no such type" 6 := ⟨by decide +kernel, gw_1287, gw_115, by decide +kernel, ta_X9_143⟩
theorem th_X9_143_327 : jv_TH RX9 143 327 147 "java/lang/IndexOutOfBoundsException" "no such bag" 8 := ⟨by decide +kernel, gw_1287, gw_115, by decide +kernel, ta_X9_143⟩
theorem th_X9_154_156 : jv_TH RX9 154 156 158 "java/lang/IllegalArgumentException" "measurement out of range" 7 := ⟨by decide +kernel, gw_1300, gw_104, by decide +kernel, ta_X9_154⟩
theorem th_X9_154_329 : jv_TH RX9 154 329 158 "java/lang/IllegalArgumentException" "counted out of range" 9 := ⟨by decide +kernel, gw_1300, gw_104, by decide +kernel, ta_X9_154⟩
theorem th_X9_331_333 : jv_TH RX9 331 333 335 "java/lang/IllegalStateException" "audited before" 10 := ⟨by decide +kernel, gw_1322, gw_122, by decide +kernel, ta_X9_331⟩
