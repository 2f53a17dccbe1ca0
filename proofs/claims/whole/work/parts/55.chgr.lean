/-! PURE: the reference's changes -/
def RO (bf : List Int32) (κ : Cf) (sn : Nat → Option St) (M : Mem) (x : Option (Int32 × Mem)) (o : Oc) : Prop := RW M x (fun r F' A' => r = o.1 ∧ Rel F' A' bf κ o.2.1 o.2.2 sn)
theorem upd_ne {f : Nat → Int32} {k j : Nat} {x : Int32} (h : j ≠ k) : upd f k x j = f j := pk_un h
section RC
variable {N : Nat} {M : Mem} {F : Nat → Int32} {A : Nat → Nat → Int32} {bf : List Int32} {κ : Cf} {σ : St} {U : List St} {sn : Nat → Option St}
/-- keep, and then a change of the state array alone -/
theorem Rel.kept {F' : Nat → Int32} {H S : Nat → Int32} {σ' : St} (k : Rel F A bf κ σ U sn) (q2 : F' 2 = F 2) (hu : RelU (F' 18) H (pushU σ U)) (hs : RelS S σ') : Rel F' (va_up (va_up A 17 H) 16 S) bf κ σ' (pushU σ U) sn :=
  k.chg q2 hu hs rfl rfl rfl rfl rfl rfl rfl
theorem rf_calibrate (hN : 2 ^ 15 ≤ N) (h : MAt M F A) (k : Rel F A bf κ σ U sn) (w : WF κ σ U sn) (t d a : Int32) : RO bf κ sn M (fn_X10_calibrate N M 389 t d a) (cbI κ σ U t d a) := by
  unfold RO fn_X10_calibrate cbI
  have h8 := w.1.1.1
  refine RW.pF h fun M1 h1 => ?_
  have k1 : Rel (upd F 0 0) A bf κ σ U sn := k.qc Qt.u0
  rw [h1.ck, obs, rf_isType h1 k.2.1 w.1, b2s, ev_coin, b2s]
  by_cases g1 : hasI (κ.2 0).length t = true
  · simp only [if_pos g1, if_neg (show ¬ (1 : Int32) = 0 by decide)]
    by_cases g2 : meI d a = true
    · simp only [if_pos g2, if_neg (show ¬ (1 : Int32) = 0 by decide)]
      obtain ⟨j, hj, rfl⟩ := hasI_of g1 (by omega)
      rw [h1.ck, obs]
      refine RW.call (rf_keep hN h1 k1.2.2.1 k1.2.2.2.1) ?_
      rintro r M2 F2 A2 h2 ⟨q0, q2, H, rfl, hu⟩
      simp (disch := omega) only [MAt.ck h2, MAt.i0 h2, MAt.i2 h2, MAt.i3 h2, MAt.i4 h2, MAt.i5 h2, MAt.i6 h2, MAt.i7 h2, MAt.i8 h2, MAt.i9 h2, MAt.i15 h2, MAt.i18 h2, MAt.i21 h2, MAt.i22 h2, MAt.i23 h2, MAt.i24 h2, MAt.g1 h2, MAt.n1 h2, MAt.r1 h2, MAt.l1 h2, MAt.g10 h2, MAt.n10 h2, MAt.r10 h2, MAt.l10 h2, MAt.g11 h2, MAt.n11 h2, MAt.r11 h2, MAt.l11 h2, MAt.g12 h2, MAt.n12 h2, MAt.r12 h2, MAt.l12 h2, MAt.g13 h2, MAt.n13 h2, MAt.r13 h2, MAt.l13 h2, MAt.g14 h2, MAt.n14 h2, MAt.r14 h2, MAt.l14 h2, MAt.g16 h2, MAt.n16 h2, MAt.r16 h2, MAt.l16 h2, MAt.g17 h2, MAt.n17 h2, MAt.r17 h2, MAt.l17 h2, MAt.g19 h2, MAt.n19 h2, MAt.r19 h2, MAt.l19 h2, MAt.g20 h2, MAt.n20 h2, MAt.r20 h2, MAt.l20 h2, MAt.g25 h2, MAt.n25 h2, MAt.r25 h2, MAt.l25 h2, MAt.g26 h2, MAt.n26 h2, MAt.r26 h2, MAt.l26 h2, MAt.g27 h2, MAt.n27 h2, MAt.r27 h2, MAt.l27 h2, MAt.g28 h2, MAt.n28 h2, MAt.r28 h2, MAt.l28 h2, obs, b2s, lA, lB, lM, nI_add, pk_mul]
      refine RW.w16 (j := 0) h2 (by omega) fun M3 h3 => ?_
      simp (disch := omega) only [MAt.ck h3, MAt.i0 h3, MAt.i2 h3, MAt.i3 h3, MAt.i4 h3, MAt.i5 h3, MAt.i6 h3, MAt.i7 h3, MAt.i8 h3, MAt.i9 h3, MAt.i15 h3, MAt.i18 h3, MAt.i21 h3, MAt.i22 h3, MAt.i23 h3, MAt.i24 h3, MAt.g1 h3, MAt.n1 h3, MAt.r1 h3, MAt.l1 h3, MAt.g10 h3, MAt.n10 h3, MAt.r10 h3, MAt.l10 h3, MAt.g11 h3, MAt.n11 h3, MAt.r11 h3, MAt.l11 h3, MAt.g12 h3, MAt.n12 h3, MAt.r12 h3, MAt.l12 h3, MAt.g13 h3, MAt.n13 h3, MAt.r13 h3, MAt.l13 h3, MAt.g14 h3, MAt.n14 h3, MAt.r14 h3, MAt.l14 h3, MAt.g16 h3, MAt.n16 h3, MAt.r16 h3, MAt.l16 h3, MAt.g17 h3, MAt.n17 h3, MAt.r17 h3, MAt.l17 h3, MAt.g19 h3, MAt.n19 h3, MAt.r19 h3, MAt.l19 h3, MAt.g20 h3, MAt.n20 h3, MAt.r20 h3, MAt.l20 h3, MAt.g25 h3, MAt.n25 h3, MAt.r25 h3, MAt.l25 h3, MAt.g26 h3, MAt.n26 h3, MAt.r26 h3, MAt.l26 h3, MAt.g27 h3, MAt.n27 h3, MAt.r27 h3, MAt.l27 h3, MAt.g28 h3, MAt.n28 h3, MAt.r28 h3, MAt.l28 h3, obs, b2s, lA, lB, lM, nI_add, pk_mul]
      refine RW.w16 (j := 1) h3 (by omega) fun M4 h4 => ?_
      refine RW.ret h4 ⟨rfl, ?_⟩
      rw [bx_uu]
      refine k.kept q2 hu ?_
      have e1 := w.1.1.2.1 1 (by omega)
      have e3 := w.1.1.2.1 3 (by omega)
      refine k.2.2.1.nums (fun q hq hq2 => ?_) ?_ ?_ ?_ ?_ ?_
      · show upd (upd (A 16) 0 _) 1 _ q = A 16 q
        rw [pk_un (by omega), pk_un (by omega)]
      · show A 12 (5 * j + 1) - d = atI (κ.2 1) (nI j) - d
        rw [atI_nI (by omega) (by omega), k.2.1.2.1 j hj 1 (by omega)]
      · show A 12 (5 * j + 3) - a = atI (κ.2 3) (nI j) - a
        rw [atI_nI (by omega) (by omega), k.2.1.2.1 j hj 3 (by omega)]
      · exact k.2.2.1.1.1.2.2.1
      · exact k.2.2.1.1.1.2.2.2.1
      · exact k.2.2.1.1.1.2.2.2.2
    · simp only [if_neg g2]
      rw [if_pos trivial]
      exact RW.ret h1 ⟨rfl, k1⟩
  · simp only [if_neg g1]
    rw [if_pos trivial]
    exact RW.ret h1 ⟨rfl, k1⟩
theorem rf_setMargin (hN : 2 ^ 15 ≤ N) (h : MAt M F A) (k : Rel F A bf κ σ U sn) (m : Int32) : RO bf κ sn M (fn_X10_setMargin N M 389 m) (smI σ U m) := by
  unfold RO fn_X10_setMargin smI
  refine RW.pF h fun M1 h1 => ?_
  have k1 : Rel (upd F 0 0) A bf κ σ U sn := k.qc Qt.u0
  rw [L0, L2000, ev_within, b2s]
  by_cases hx : 0 ≤ m ∧ m ≤ 2000
  · rw [if_pos hx, if_neg (by decide), if_neg (Int32.not_lt.mpr hx.1), if_neg (Int32.not_lt.mpr hx.2), h1.ck, obs]
    refine RW.call (rf_keep hN h1 k1.2.2.1 k1.2.2.2.1) ?_
    rintro r M2 F2 A2 h2 ⟨q0, q2, H, rfl, hu⟩
    simp (disch := omega) only [MAt.ck h2, MAt.i0 h2, MAt.i2 h2, MAt.i3 h2, MAt.i4 h2, MAt.i5 h2, MAt.i6 h2, MAt.i7 h2, MAt.i8 h2, MAt.i9 h2, MAt.i15 h2, MAt.i18 h2, MAt.i21 h2, MAt.i22 h2, MAt.i23 h2, MAt.i24 h2, MAt.g1 h2, MAt.n1 h2, MAt.r1 h2, MAt.l1 h2, MAt.g10 h2, MAt.n10 h2, MAt.r10 h2, MAt.l10 h2, MAt.g11 h2, MAt.n11 h2, MAt.r11 h2, MAt.l11 h2, MAt.g12 h2, MAt.n12 h2, MAt.r12 h2, MAt.l12 h2, MAt.g13 h2, MAt.n13 h2, MAt.r13 h2, MAt.l13 h2, MAt.g14 h2, MAt.n14 h2, MAt.r14 h2, MAt.l14 h2, MAt.g16 h2, MAt.n16 h2, MAt.r16 h2, MAt.l16 h2, MAt.g17 h2, MAt.n17 h2, MAt.r17 h2, MAt.l17 h2, MAt.g19 h2, MAt.n19 h2, MAt.r19 h2, MAt.l19 h2, MAt.g20 h2, MAt.n20 h2, MAt.r20 h2, MAt.l20 h2, MAt.g25 h2, MAt.n25 h2, MAt.r25 h2, MAt.l25 h2, MAt.g26 h2, MAt.n26 h2, MAt.r26 h2, MAt.l26 h2, MAt.g27 h2, MAt.n27 h2, MAt.r27 h2, MAt.l27 h2, MAt.g28 h2, MAt.n28 h2, MAt.r28 h2, MAt.l28 h2, obs, b2s, lA, lB, lM, nI_add, pk_mul]
    refine RW.w16 (j := 2) h2 (by omega) fun M3 h3 => ?_
    refine RW.ret h3 ⟨k.2.2.1.1.1.2.2.1, k.kept q2 hu ?_⟩
    refine k.2.2.1.nums (fun q hq hq2 => ?_) k.2.2.1.1.1.1 k.2.2.1.1.1.2.1 rfl k.2.2.1.1.1.2.2.2.1 k.2.2.1.1.1.2.2.2.2
    show upd (A 16) 2 _ q = A 16 q
    rw [pk_un (by omega)]
  · rw [if_neg hx, if_pos rfl]
    refine RW.ret h1 ?_
    by_cases g1 : m < 0
    · rw [if_pos g1]; exact ⟨rfl, k1⟩
    · by_cases g2 : 2000 < m
      · rw [if_neg g1, if_pos g2]; exact ⟨rfl, k1⟩
      · exact absurd ⟨Int32.not_lt.mp g1, Int32.not_lt.mp g2⟩ hx
theorem meI_of {d a : Int32} (h : meI d a = true) : ∃ x y, 1 ≤ x ∧ x ≤ 4000 ∧ y ≤ 9999 ∧ d = nI x ∧ a = nI y := by
  unfold meI at h
  simp only [Bool.and_eq_true, Bool.not_eq_true', decide_eq_false_iff_not] at h
  obtain ⟨⟨⟨h1, h2⟩, h3⟩, h4⟩ := h
  obtain ⟨y, y1, y2⟩ := nI_of2 (x := a) (M := 9999) (n := 9999) rfl h3 (Int32.not_lt.mp h4)
  have h5 : ¬ d < 0 := by
    intro q
    have := Int32.lt_iff_toInt_lt.mp q
    rw [Int32.lt_iff_toInt_lt] at h1
    rw [show (1 : Int32).toInt = 1 from rfl] at h1
    rw [show (0 : Int32).toInt = 0 from rfl] at this
    omega
  obtain ⟨x, x1, x2⟩ := nI_of2 (x := d) (M := 4000) (n := 4000) rfl h5 (Int32.not_lt.mp h2)
  refine ⟨x, y, ?_, x1, y1, x2, y2⟩
  rw [x2, lGt (by decide) (by omega)] at h1
  omega
theorem coin_nI (x y : Nat) : nI x * 10000 + nI y = nI (x * 10000 + y) := by
  rw [show (10000 : Int32) = nI 10000 from rfl, pk_mul, nI_add]
theorem coin_d {x y : Nat} (hx : x ≤ 4000) (hy : y ≤ 9999) : nI (x * 10000 + y) / 10000 = nI x := by
  rw [show (10000 : Int32) = nI 10000 from rfl, pk_div (by omega) (by omega) (by omega)]
  congr 1
  omega
theorem coin_a {x y : Nat} (hx : x ≤ 4000) (hy : y ≤ 9999) : nI (x * 10000 + y) - nI (x * 10000 + y) / 10000 * 10000 = nI y := by
  rw [show (10000 : Int32) = nI 10000 from rfl, pk_rem (by omega) (by omega) (by omega)]
  congr 1
  omega
theorem getD_app {l : List Int32} {v : Int32} {i : Nat} (h : i < l.length) : (l ++ [v]).getD i 0 = l.getD i 0 := by
  simp [List.getD_eq_getElem?_getD, List.getElem?_append_left h]
theorem getD_app1 {l : List Int32} {v : Int32} {n : Nat} (h : n = l.length) : (l ++ [v]).getD n 0 = v := by
  subst h; simp
theorem rf_insert (hN : 2 ^ 15 ≤ N) (h : MAt M F A) (k : Rel F A bf κ σ U sn) (d a : Int32) : RO bf κ sn M (fn_X10_insert N M 389 d a) (inI σ U d a) := by
  unfold RO fn_X10_insert inI
  have hl := k.2.2.1.2.1.1
  refine RW.pF h fun M1 h1 => ?_
  have k1 : Rel (upd F 0 0) A bf κ σ U sn := k.qc Qt.u0
  rw [ev_coin, b2s]
  by_cases g1 : meI d a = true
  · simp only [if_pos g1, if_neg (show ¬ (1 : Int32) = 0 by decide)]
    obtain ⟨x, y, x1, x2, y1, rfl, rfl⟩ := meI_of g1
    simp (disch := omega) only [MAt.ck h1, MAt.i0 h1, MAt.i2 h1, MAt.i3 h1, MAt.i4 h1, MAt.i5 h1, MAt.i6 h1, MAt.i7 h1, MAt.i8 h1, MAt.i9 h1, MAt.i15 h1, MAt.i18 h1, MAt.i21 h1, MAt.i22 h1, MAt.i23 h1, MAt.i24 h1, MAt.g1 h1, MAt.n1 h1, MAt.r1 h1, MAt.l1 h1, MAt.g10 h1, MAt.n10 h1, MAt.r10 h1, MAt.l10 h1, MAt.g11 h1, MAt.n11 h1, MAt.r11 h1, MAt.l11 h1, MAt.g12 h1, MAt.n12 h1, MAt.r12 h1, MAt.l12 h1, MAt.g13 h1, MAt.n13 h1, MAt.r13 h1, MAt.l13 h1, MAt.g14 h1, MAt.n14 h1, MAt.r14 h1, MAt.l14 h1, MAt.g16 h1, MAt.n16 h1, MAt.r16 h1, MAt.l16 h1, MAt.g17 h1, MAt.n17 h1, MAt.r17 h1, MAt.l17 h1, MAt.g19 h1, MAt.n19 h1, MAt.r19 h1, MAt.l19 h1, MAt.g20 h1, MAt.n20 h1, MAt.r20 h1, MAt.l20 h1, MAt.g25 h1, MAt.n25 h1, MAt.r25 h1, MAt.l25 h1, MAt.g26 h1, MAt.n26 h1, MAt.r26 h1, MAt.l26 h1, MAt.g27 h1, MAt.n27 h1, MAt.r27 h1, MAt.l27 h1, MAt.g28 h1, MAt.n28 h1, MAt.r28 h1, MAt.l28 h1, obs, b2s, lA, lB, lM, nI_add, pk_mul]
    rw [k.2.2.1.1.2.1]
    have hc := lEq (m := 60) (n := (σ.2 0).length) (by decide) (by omega)
    by_cases g2 : (σ.2 0).length = 60
    · rw [if_pos (hc.mpr g2), if_neg (by omega)]
      exact RW.ret h1 ⟨rfl, k1⟩
    · rw [if_neg (fun q => g2 (hc.mp q)), if_pos (by omega)]
      refine RW.call (rf_keep hN h1 k1.2.2.1 k1.2.2.2.1) ?_
      rintro r M2 F2 A2 h2 ⟨q0, q2, H, rfl, hu⟩
      simp (disch := omega) only [MAt.ck h2, MAt.i0 h2, MAt.i2 h2, MAt.i3 h2, MAt.i4 h2, MAt.i5 h2, MAt.i6 h2, MAt.i7 h2, MAt.i8 h2, MAt.i9 h2, MAt.i15 h2, MAt.i18 h2, MAt.i21 h2, MAt.i22 h2, MAt.i23 h2, MAt.i24 h2, MAt.g1 h2, MAt.n1 h2, MAt.r1 h2, MAt.l1 h2, MAt.g10 h2, MAt.n10 h2, MAt.r10 h2, MAt.l10 h2, MAt.g11 h2, MAt.n11 h2, MAt.r11 h2, MAt.l11 h2, MAt.g12 h2, MAt.n12 h2, MAt.r12 h2, MAt.l12 h2, MAt.g13 h2, MAt.n13 h2, MAt.r13 h2, MAt.l13 h2, MAt.g14 h2, MAt.n14 h2, MAt.r14 h2, MAt.l14 h2, MAt.g16 h2, MAt.n16 h2, MAt.r16 h2, MAt.l16 h2, MAt.g17 h2, MAt.n17 h2, MAt.r17 h2, MAt.l17 h2, MAt.g19 h2, MAt.n19 h2, MAt.r19 h2, MAt.l19 h2, MAt.g20 h2, MAt.n20 h2, MAt.r20 h2, MAt.l20 h2, MAt.g25 h2, MAt.n25 h2, MAt.r25 h2, MAt.l25 h2, MAt.g26 h2, MAt.n26 h2, MAt.r26 h2, MAt.l26 h2, MAt.g27 h2, MAt.n27 h2, MAt.r27 h2, MAt.l27 h2, MAt.g28 h2, MAt.n28 h2, MAt.r28 h2, MAt.l28 h2, obs, b2s, lA, lB, lM, nI_add, pk_mul]
      have e3 : va_up A 17 H 16 3 = nI (σ.2 0).length := k.2.2.1.1.2.1
      rw [e3]
      simp (disch := omega) only [MAt.ck h2, MAt.i0 h2, MAt.i2 h2, MAt.i3 h2, MAt.i4 h2, MAt.i5 h2, MAt.i6 h2, MAt.i7 h2, MAt.i8 h2, MAt.i9 h2, MAt.i15 h2, MAt.i18 h2, MAt.i21 h2, MAt.i22 h2, MAt.i23 h2, MAt.i24 h2, MAt.g1 h2, MAt.n1 h2, MAt.r1 h2, MAt.l1 h2, MAt.g10 h2, MAt.n10 h2, MAt.r10 h2, MAt.l10 h2, MAt.g11 h2, MAt.n11 h2, MAt.r11 h2, MAt.l11 h2, MAt.g12 h2, MAt.n12 h2, MAt.r12 h2, MAt.l12 h2, MAt.g13 h2, MAt.n13 h2, MAt.r13 h2, MAt.l13 h2, MAt.g14 h2, MAt.n14 h2, MAt.r14 h2, MAt.l14 h2, MAt.g16 h2, MAt.n16 h2, MAt.r16 h2, MAt.l16 h2, MAt.g17 h2, MAt.n17 h2, MAt.r17 h2, MAt.l17 h2, MAt.g19 h2, MAt.n19 h2, MAt.r19 h2, MAt.l19 h2, MAt.g20 h2, MAt.n20 h2, MAt.r20 h2, MAt.l20 h2, MAt.g25 h2, MAt.n25 h2, MAt.r25 h2, MAt.l25 h2, MAt.g26 h2, MAt.n26 h2, MAt.r26 h2, MAt.l26 h2, MAt.g27 h2, MAt.n27 h2, MAt.r27 h2, MAt.l27 h2, MAt.g28 h2, MAt.n28 h2, MAt.r28 h2, MAt.l28 h2, obs, b2s, lA, lB, lM, nI_add, pk_mul]
      refine RW.w16 h2 (by omega) fun M3 h3 => ?_
      simp (disch := omega) only [MAt.ck h3, MAt.i0 h3, MAt.i2 h3, MAt.i3 h3, MAt.i4 h3, MAt.i5 h3, MAt.i6 h3, MAt.i7 h3, MAt.i8 h3, MAt.i9 h3, MAt.i15 h3, MAt.i18 h3, MAt.i21 h3, MAt.i22 h3, MAt.i23 h3, MAt.i24 h3, MAt.g1 h3, MAt.n1 h3, MAt.r1 h3, MAt.l1 h3, MAt.g10 h3, MAt.n10 h3, MAt.r10 h3, MAt.l10 h3, MAt.g11 h3, MAt.n11 h3, MAt.r11 h3, MAt.l11 h3, MAt.g12 h3, MAt.n12 h3, MAt.r12 h3, MAt.l12 h3, MAt.g13 h3, MAt.n13 h3, MAt.r13 h3, MAt.l13 h3, MAt.g14 h3, MAt.n14 h3, MAt.r14 h3, MAt.l14 h3, MAt.g16 h3, MAt.n16 h3, MAt.r16 h3, MAt.l16 h3, MAt.g17 h3, MAt.n17 h3, MAt.r17 h3, MAt.l17 h3, MAt.g19 h3, MAt.n19 h3, MAt.r19 h3, MAt.l19 h3, MAt.g20 h3, MAt.n20 h3, MAt.r20 h3, MAt.l20 h3, MAt.g25 h3, MAt.n25 h3, MAt.r25 h3, MAt.l25 h3, MAt.g26 h3, MAt.n26 h3, MAt.r26 h3, MAt.l26 h3, MAt.g27 h3, MAt.n27 h3, MAt.r27 h3, MAt.l27 h3, MAt.g28 h3, MAt.n28 h3, MAt.r28 h3, MAt.l28 h3, obs, b2s, lA, lB, lM, nI_add, pk_mul]
      have e3' : va_up (va_up A 17 H) 16 (upd (va_up A 17 H 16) (82 + 2 * (σ.2 0).length) (nI x)) 16 3 = nI (σ.2 0).length := by
        show upd (A 16) (82 + 2 * (σ.2 0).length) (nI x) 3 = _
        rw [pk_un (by omega)]
        exact k.2.2.1.1.2.1
      rw [e3']
      simp (disch := omega) only [MAt.ck h3, MAt.i0 h3, MAt.i2 h3, MAt.i3 h3, MAt.i4 h3, MAt.i5 h3, MAt.i6 h3, MAt.i7 h3, MAt.i8 h3, MAt.i9 h3, MAt.i15 h3, MAt.i18 h3, MAt.i21 h3, MAt.i22 h3, MAt.i23 h3, MAt.i24 h3, MAt.g1 h3, MAt.n1 h3, MAt.r1 h3, MAt.l1 h3, MAt.g10 h3, MAt.n10 h3, MAt.r10 h3, MAt.l10 h3, MAt.g11 h3, MAt.n11 h3, MAt.r11 h3, MAt.l11 h3, MAt.g12 h3, MAt.n12 h3, MAt.r12 h3, MAt.l12 h3, MAt.g13 h3, MAt.n13 h3, MAt.r13 h3, MAt.l13 h3, MAt.g14 h3, MAt.n14 h3, MAt.r14 h3, MAt.l14 h3, MAt.g16 h3, MAt.n16 h3, MAt.r16 h3, MAt.l16 h3, MAt.g17 h3, MAt.n17 h3, MAt.r17 h3, MAt.l17 h3, MAt.g19 h3, MAt.n19 h3, MAt.r19 h3, MAt.l19 h3, MAt.g20 h3, MAt.n20 h3, MAt.r20 h3, MAt.l20 h3, MAt.g25 h3, MAt.n25 h3, MAt.r25 h3, MAt.l25 h3, MAt.g26 h3, MAt.n26 h3, MAt.r26 h3, MAt.l26 h3, MAt.g27 h3, MAt.n27 h3, MAt.r27 h3, MAt.l27 h3, MAt.g28 h3, MAt.n28 h3, MAt.r28 h3, MAt.l28 h3, obs, b2s, lA, lB, lM, nI_add, pk_mul]
      refine RW.w16 h3 (by omega) fun M4 h4 => ?_
      simp (disch := omega) only [MAt.ck h4, MAt.i0 h4, MAt.i2 h4, MAt.i3 h4, MAt.i4 h4, MAt.i5 h4, MAt.i6 h4, MAt.i7 h4, MAt.i8 h4, MAt.i9 h4, MAt.i15 h4, MAt.i18 h4, MAt.i21 h4, MAt.i22 h4, MAt.i23 h4, MAt.i24 h4, MAt.g1 h4, MAt.n1 h4, MAt.r1 h4, MAt.l1 h4, MAt.g10 h4, MAt.n10 h4, MAt.r10 h4, MAt.l10 h4, MAt.g11 h4, MAt.n11 h4, MAt.r11 h4, MAt.l11 h4, MAt.g12 h4, MAt.n12 h4, MAt.r12 h4, MAt.l12 h4, MAt.g13 h4, MAt.n13 h4, MAt.r13 h4, MAt.l13 h4, MAt.g14 h4, MAt.n14 h4, MAt.r14 h4, MAt.l14 h4, MAt.g16 h4, MAt.n16 h4, MAt.r16 h4, MAt.l16 h4, MAt.g17 h4, MAt.n17 h4, MAt.r17 h4, MAt.l17 h4, MAt.g19 h4, MAt.n19 h4, MAt.r19 h4, MAt.l19 h4, MAt.g20 h4, MAt.n20 h4, MAt.r20 h4, MAt.l20 h4, MAt.g25 h4, MAt.n25 h4, MAt.r25 h4, MAt.l25 h4, MAt.g26 h4, MAt.n26 h4, MAt.r26 h4, MAt.l26 h4, MAt.g27 h4, MAt.n27 h4, MAt.r27 h4, MAt.l27 h4, MAt.g28 h4, MAt.n28 h4, MAt.r28 h4, MAt.l28 h4, obs, b2s, lA, lB, lM, nI_add, pk_mul]
      rw [bx_uu] at h4 ⊢
      have e3'' : va_up (va_up A 17 H) 16 (upd (va_up (va_up A 17 H) 16 (upd (va_up A 17 H 16) (82 + 2 * (σ.2 0).length) (nI x)) 16) (82 + 2 * (σ.2 0).length + 1) (nI y)) 16 3 = nI (σ.2 0).length := by
        show upd (upd (A 16) (82 + 2 * (σ.2 0).length) (nI x)) (82 + 2 * (σ.2 0).length + 1) (nI y) 3 = _
        rw [pk_un (by omega), pk_un (by omega)]
        exact k.2.2.1.1.2.1
      rw [e3'', nI_1]
      refine RW.w16 (j := 3) h4 (by omega) fun M5 h5 => ?_
      simp (disch := omega) only [MAt.ck h5, MAt.i0 h5, MAt.i2 h5, MAt.i3 h5, MAt.i4 h5, MAt.i5 h5, MAt.i6 h5, MAt.i7 h5, MAt.i8 h5, MAt.i9 h5, MAt.i15 h5, MAt.i18 h5, MAt.i21 h5, MAt.i22 h5, MAt.i23 h5, MAt.i24 h5, MAt.g1 h5, MAt.n1 h5, MAt.r1 h5, MAt.l1 h5, MAt.g10 h5, MAt.n10 h5, MAt.r10 h5, MAt.l10 h5, MAt.g11 h5, MAt.n11 h5, MAt.r11 h5, MAt.l11 h5, MAt.g12 h5, MAt.n12 h5, MAt.r12 h5, MAt.l12 h5, MAt.g13 h5, MAt.n13 h5, MAt.r13 h5, MAt.l13 h5, MAt.g14 h5, MAt.n14 h5, MAt.r14 h5, MAt.l14 h5, MAt.g16 h5, MAt.n16 h5, MAt.r16 h5, MAt.l16 h5, MAt.g17 h5, MAt.n17 h5, MAt.r17 h5, MAt.l17 h5, MAt.g19 h5, MAt.n19 h5, MAt.r19 h5, MAt.l19 h5, MAt.g20 h5, MAt.n20 h5, MAt.r20 h5, MAt.l20 h5, MAt.g25 h5, MAt.n25 h5, MAt.r25 h5, MAt.l25 h5, MAt.g26 h5, MAt.n26 h5, MAt.r26 h5, MAt.l26 h5, MAt.g27 h5, MAt.n27 h5, MAt.r27 h5, MAt.l27 h5, MAt.g28 h5, MAt.n28 h5, MAt.r28 h5, MAt.l28 h5, obs, b2s, lA, lB, lM, nI_add, pk_mul]
      refine RW.ret h5 ⟨rfl, ?_⟩
      rw [bx_uu]
      refine k.kept q2 hu ?_
      refine k.2.2.1.hop (fun q hq hq2 => ?_) ?_ ?_ (fun i hi => ?_)
      · show upd (upd (upd (A 16) (82 + 2 * (σ.2 0).length) (nI x)) (82 + 2 * (σ.2 0).length + 1) (nI y)) 3 (nI ((σ.2 0).length + 1)) q = A 16 q
        rw [pk_un (by omega), pk_un (by omega), pk_un (by omega)]
      · rw [List.length_append]
        rfl
      · rw [List.length_append]
        show (σ.2 0).length + 1 ≤ 60
        omega
      · rw [List.length_append] at hi
        have hi' : i < (σ.2 0).length + 1 := hi
        show upd (upd (upd (A 16) (82 + 2 * (σ.2 0).length) (nI x)) (82 + 2 * (σ.2 0).length + 1) (nI y)) 3 (nI ((σ.2 0).length + 1)) (82 + 2 * i) = _ ∧ upd (upd (upd (A 16) (82 + 2 * (σ.2 0).length) (nI x)) (82 + 2 * (σ.2 0).length + 1) (nI y)) 3 (nI ((σ.2 0).length + 1)) (82 + 2 * i + 1) = _
        by_cases he : i = (σ.2 0).length
        · subst he
          rw [getD_app1 rfl, coin_nI, coin_a x2 y1, coin_d x2 y1, pk_un (by omega), pk_un (by omega), pk_us, pk_un (by omega), pk_us]
          exact ⟨rfl, rfl⟩
        · rw [getD_app (by omega), pk_un (by omega), pk_un (by omega), pk_un (by omega), pk_un (by omega), pk_un (by omega), pk_un (by omega)]
          exact k.2.2.1.2.2.2.2.2.2.1 i (by omega)
  · simp only [if_neg g1]
    rw [if_pos trivial]
    exact RW.ret h1 ⟨rfl, k1⟩
theorem RW.s16 {α : Type} {Q : α → (Nat → Int32) → (Nat → Nat → Int32) → Prop} {S : Nat → Int32} {j : Nat} {v : Int32} {f : Mem → Option (α × Mem)} (h : MAt M F (va_up A 16 S)) (hj : j < 412) (k : ∀ M', MAt M' F (va_up A 16 (upd S j v)) → RW M' (f M') Q) : RW M ((mm_sI M 396 0 (nI j) v).bind f) Q := by
  refine RW.w16 h hj fun M' h' => k M' ?_
  rw [bx_uu] at h'
  exact h'
theorem va_self : va_up A 16 (A 16) = A := by
  funext j
  unfold va_up
  split
  · rename_i e; rw [e]
  · rfl
theorem v1616 {S : Nat → Int32} : va_up A 16 S 16 = S := by simp [va_up]
theorem v1610 {S : Nat → Int32} : va_up A 16 S 10 = A 10 := by simp [va_up]
theorem v1612 {S : Nat → Int32} : va_up A 16 S 12 = A 12 := by simp [va_up]
theorem v1613 {S : Nat → Int32} : va_up A 16 S 13 = A 13 := by simp [va_up]
theorem v1614 {S : Nat → Int32} : va_up A 16 S 14 = A 14 := by simp [va_up]
theorem v1617 {S : Nat → Int32} : va_up A 16 S 17 = A 17 := by simp [va_up]
theorem v1627 {S : Nat → Int32} : va_up A 16 S 27 = A 27 := by simp [va_up]
theorem v1716 {S : Nat → Int32} : va_up A 17 S 16 = A 16 := by simp [va_up]
theorem v1710 {S : Nat → Int32} : va_up A 17 S 10 = A 10 := by simp [va_up]
theorem v1712 {S : Nat → Int32} : va_up A 17 S 12 = A 12 := by simp [va_up]
theorem v1713 {S : Nat → Int32} : va_up A 17 S 13 = A 13 := by simp [va_up]
theorem v1714 {S : Nat → Int32} : va_up A 17 S 14 = A 14 := by simp [va_up]
theorem v1727 {S : Nat → Int32} : va_up A 17 S 27 = A 27 := by simp [va_up]
/-- keep, with the state array told -/
theorem rf_keep2 (hN : 2 ^ 15 ≤ N) (h : MAt M F A) (k : Rel F A bf κ σ U sn) : RW M (fn_X10_keep N M 389) (fun _ F' A' => F' 0 = F 0 ∧ F' 2 = F 2 ∧ ∃ H, A' = va_up (va_up A 17 H) 16 (A 16) ∧ RelU (F' 18) H (pushU σ U)) := by
  refine (rf_keep hN h k.2.2.1 k.2.2.2.1).imp ?_
  rintro r F' A' ⟨q0, q2, H, q3, q4⟩
  refine ⟨q0, q2, H, ?_, q4⟩
  rw [q3]
  have := va_self (A := va_up A 17 H)
  rw [v1716] at this
  exact this.symm
theorem rf_clearJam (hN : 2 ^ 15 ≤ N) (h : MAt M F A) (k : Rel F A bf κ σ U sn) : RO bf κ sn M (fn_X10_clearJam N M 389) (cjI σ U) := by
  unfold RO fn_X10_clearJam cjI
  have hl := k.2.2.1.2.1.2.2.2.1
  refine RW.pF h fun M1 h1 => ?_
  have k1 : Rel (upd F 0 0) A bf κ σ U sn := k.qc Qt.u0
  simp (disch := omega) only [MAt.ck h1, MAt.i0 h1, MAt.i2 h1, MAt.i3 h1, MAt.i4 h1, MAt.i5 h1, MAt.i6 h1, MAt.i7 h1, MAt.i8 h1, MAt.i9 h1, MAt.i15 h1, MAt.i18 h1, MAt.i21 h1, MAt.i22 h1, MAt.i23 h1, MAt.i24 h1, MAt.g1 h1, MAt.n1 h1, MAt.r1 h1, MAt.l1 h1, MAt.g10 h1, MAt.n10 h1, MAt.r10 h1, MAt.l10 h1, MAt.g11 h1, MAt.n11 h1, MAt.r11 h1, MAt.l11 h1, MAt.g12 h1, MAt.n12 h1, MAt.r12 h1, MAt.l12 h1, MAt.g13 h1, MAt.n13 h1, MAt.r13 h1, MAt.l13 h1, MAt.g14 h1, MAt.n14 h1, MAt.r14 h1, MAt.l14 h1, MAt.g16 h1, MAt.n16 h1, MAt.r16 h1, MAt.l16 h1, MAt.g17 h1, MAt.n17 h1, MAt.r17 h1, MAt.l17 h1, MAt.g19 h1, MAt.n19 h1, MAt.r19 h1, MAt.l19 h1, MAt.g20 h1, MAt.n20 h1, MAt.r20 h1, MAt.l20 h1, MAt.g25 h1, MAt.n25 h1, MAt.r25 h1, MAt.l25 h1, MAt.g26 h1, MAt.n26 h1, MAt.r26 h1, MAt.l26 h1, MAt.g27 h1, MAt.n27 h1, MAt.r27 h1, MAt.l27 h1, MAt.g28 h1, MAt.n28 h1, MAt.r28 h1, MAt.l28 h1, obs, b2s, lA, lB, lM, nI_add, pk_mul]
  rw [k.2.2.1.1.1.2.2.2.1]
  by_cases g : σ.1 3 = 0
  · rw [if_pos g, if_pos g]
    exact RW.ret h1 ⟨rfl, k1⟩
  · rw [if_neg g, if_neg g]
    refine RW.call (rf_keep2 hN h1 k1) ?_
    rintro r M2 F2 A2 h2 ⟨q0, q2, H, rfl, hu⟩
    simp (disch := omega) only [MAt.ck h2, MAt.i0 h2, MAt.i2 h2, MAt.i3 h2, MAt.i4 h2, MAt.i5 h2, MAt.i6 h2, MAt.i7 h2, MAt.i8 h2, MAt.i9 h2, MAt.i15 h2, MAt.i18 h2, MAt.i21 h2, MAt.i22 h2, MAt.i23 h2, MAt.i24 h2, MAt.g1 h2, MAt.n1 h2, MAt.r1 h2, MAt.l1 h2, MAt.g10 h2, MAt.n10 h2, MAt.r10 h2, MAt.l10 h2, MAt.g11 h2, MAt.n11 h2, MAt.r11 h2, MAt.l11 h2, MAt.g12 h2, MAt.n12 h2, MAt.r12 h2, MAt.l12 h2, MAt.g13 h2, MAt.n13 h2, MAt.r13 h2, MAt.l13 h2, MAt.g14 h2, MAt.n14 h2, MAt.r14 h2, MAt.l14 h2, MAt.g16 h2, MAt.n16 h2, MAt.r16 h2, MAt.l16 h2, MAt.g17 h2, MAt.n17 h2, MAt.r17 h2, MAt.l17 h2, MAt.g19 h2, MAt.n19 h2, MAt.r19 h2, MAt.l19 h2, MAt.g20 h2, MAt.n20 h2, MAt.r20 h2, MAt.l20 h2, MAt.g25 h2, MAt.n25 h2, MAt.r25 h2, MAt.l25 h2, MAt.g26 h2, MAt.n26 h2, MAt.r26 h2, MAt.l26 h2, MAt.g27 h2, MAt.n27 h2, MAt.r27 h2, MAt.l27 h2, MAt.g28 h2, MAt.n28 h2, MAt.r28 h2, MAt.l28 h2, obs, b2s, lA, lB, lM, nI_add, pk_mul]
    refine RW.s16 (j := 5) h2 (by omega) fun M3 h3 => ?_
    rw [h3.g16, obs, rf_rej, b2s, if_pos (by decide), show (10 + 24 - 21 : Int32) = nI 13 by decide]
    simp (disch := omega) only [MAt.ck h3, MAt.i0 h3, MAt.i2 h3, MAt.i3 h3, MAt.i4 h3, MAt.i5 h3, MAt.i6 h3, MAt.i7 h3, MAt.i8 h3, MAt.i9 h3, MAt.i15 h3, MAt.i18 h3, MAt.i21 h3, MAt.i22 h3, MAt.i23 h3, MAt.i24 h3, MAt.g1 h3, MAt.n1 h3, MAt.r1 h3, MAt.l1 h3, MAt.g10 h3, MAt.n10 h3, MAt.r10 h3, MAt.l10 h3, MAt.g11 h3, MAt.n11 h3, MAt.r11 h3, MAt.l11 h3, MAt.g12 h3, MAt.n12 h3, MAt.r12 h3, MAt.l12 h3, MAt.g13 h3, MAt.n13 h3, MAt.r13 h3, MAt.l13 h3, MAt.g14 h3, MAt.n14 h3, MAt.r14 h3, MAt.l14 h3, MAt.g16 h3, MAt.n16 h3, MAt.r16 h3, MAt.l16 h3, MAt.g17 h3, MAt.n17 h3, MAt.r17 h3, MAt.l17 h3, MAt.g19 h3, MAt.n19 h3, MAt.r19 h3, MAt.l19 h3, MAt.g20 h3, MAt.n20 h3, MAt.r20 h3, MAt.l20 h3, MAt.g25 h3, MAt.n25 h3, MAt.r25 h3, MAt.l25 h3, MAt.g26 h3, MAt.n26 h3, MAt.r26 h3, MAt.l26 h3, MAt.g27 h3, MAt.n27 h3, MAt.r27 h3, MAt.l27 h3, MAt.g28 h3, MAt.n28 h3, MAt.r28 h3, MAt.l28 h3, obs, b2s, lA, lB, lM, nI_add, pk_mul, v1616, v1610, v1612, v1613, v1614, v1617, v1627, v1716, v1710, v1712, v1713, v1714, v1727]
    refine RW.s16 (j := 13) h3 (by omega) fun M4 h4 => ?_
    refine RW.ret h4 ⟨rfl, k.kept q2 hu ?_⟩
    have e : upd (A 16) 5 0 13 = (σ.2 3).getD 3 0 := by rw [pk_un (by omega)]; exact k.2.2.1.2.2.1 3 (by omega)
    have hs : RelS (upd (A 16) 5 0) (upd σ.1 3 0, σ.2) := k.2.2.1.nums (fun q hq hq2 => pk_un (by omega)) k.2.2.1.1.1.1 k.2.2.1.1.1.2.1 k.2.2.1.1.1.2.2.1 rfl k.2.2.1.1.1.2.2.2.2
    rw [e]
    refine hs.rej (fun q hq hq2 => pk_un (by omega)) (by rw [List.length_set]; exact hl) (fun i hi => ?_)
    by_cases he : i = 3
    · subst he
      rw [pk_us]
      simp [hl]
    · rw [pk_un (by omega), pk_un (by omega), k.2.2.1.2.2.1 i hi]
      simp [List.getD_eq_getElem?_getD, List.getElem?_set_ne (Ne.symm he)]
theorem rf_changeBag (hN : 2 ^ 15 ≤ N) (h : MAt M F A) (k : Rel F A bf κ σ U sn) (w : WF κ σ U sn) (b : Int32) : RO bf κ sn M (fn_X10_changeBag N M 389 b) (bgI κ σ U b) := by
  unfold RO fn_X10_changeBag bgI
  have h8 := w.1.1.2.2.2.2.1
  have hs := w.2.1.1
  have hl5 := k.2.2.1.2.1.2.2.2.2.2.1
  have hl6 := k.2.2.1.2.1.2.2.2.2.2.2.1
  have hl7 := k.2.2.1.2.1.2.2.2.2.2.2.2.1
  refine RW.pF h fun M1 h1 => ?_
  have k1 : Rel (upd F 0 0) A bf κ σ U sn := k.qc Qt.u0
  rw [h1.ck, obs, rf_isBin h1 k.2.1 w.1, b2s]
  by_cases g1 : hasI (κ.2 10).length b = true
  · simp only [if_pos g1, if_neg (show ¬ (1 : Int32) = 0 by decide)]
    obtain ⟨j, hj, rfl⟩ := hasI_of g1 (by omega)
    rw [atI_nI (l := σ.2 2) (by omega) (by omega), atI_nI (l := κ.2 10) (by omega) (by omega), nI_clamp (by omega)]
    have ej : A 16 (14 + j) = (σ.2 2).getD j 0 := k.2.2.1.2.2.2.1 j (by omega)
    simp (disch := omega) only [MAt.ck h1, MAt.i0 h1, MAt.i2 h1, MAt.i3 h1, MAt.i4 h1, MAt.i5 h1, MAt.i6 h1, MAt.i7 h1, MAt.i8 h1, MAt.i9 h1, MAt.i15 h1, MAt.i18 h1, MAt.i21 h1, MAt.i22 h1, MAt.i23 h1, MAt.i24 h1, MAt.g1 h1, MAt.n1 h1, MAt.r1 h1, MAt.l1 h1, MAt.g10 h1, MAt.n10 h1, MAt.r10 h1, MAt.l10 h1, MAt.g11 h1, MAt.n11 h1, MAt.r11 h1, MAt.l11 h1, MAt.g12 h1, MAt.n12 h1, MAt.r12 h1, MAt.l12 h1, MAt.g13 h1, MAt.n13 h1, MAt.r13 h1, MAt.l13 h1, MAt.g14 h1, MAt.n14 h1, MAt.r14 h1, MAt.l14 h1, MAt.g16 h1, MAt.n16 h1, MAt.r16 h1, MAt.l16 h1, MAt.g17 h1, MAt.n17 h1, MAt.r17 h1, MAt.l17 h1, MAt.g19 h1, MAt.n19 h1, MAt.r19 h1, MAt.l19 h1, MAt.g20 h1, MAt.n20 h1, MAt.r20 h1, MAt.l20 h1, MAt.g25 h1, MAt.n25 h1, MAt.r25 h1, MAt.l25 h1, MAt.g26 h1, MAt.n26 h1, MAt.r26 h1, MAt.l26 h1, MAt.g27 h1, MAt.n27 h1, MAt.r27 h1, MAt.l27 h1, MAt.g28 h1, MAt.n28 h1, MAt.r28 h1, MAt.l28 h1, obs, b2s, lA, lB, lM, nI_add, pk_mul]
    rw [ej]
    by_cases g2 : (σ.2 2).getD j 0 = 0
    · rw [if_pos g2, if_pos g2]
      exact RW.ret h1 ⟨rfl, k1⟩
    · rw [if_neg g2, if_neg g2, k.2.2.1.1.2.2.2.2.1]
      have hc := lEq (m := 30) (n := (σ.2 5).length) (by decide) (by omega)
      by_cases g3 : (σ.2 5).length = 30
      · rw [if_pos (hc.mpr g3), if_neg (by omega)]
        exact RW.ret h1 ⟨rfl, k1⟩
      · rw [if_neg (fun q => g3 (hc.mp q)), if_pos (by omega)]
        refine RW.call (rf_keep2 hN h1 k1) ?_
        rintro r M2 F2 A2 h2 ⟨q0, q2, H, rfl, hu⟩
        simp (disch := omega) only [MAt.ck h2, MAt.i0 h2, MAt.i2 h2, MAt.i3 h2, MAt.i4 h2, MAt.i5 h2, MAt.i6 h2, MAt.i7 h2, MAt.i8 h2, MAt.i9 h2, MAt.i15 h2, MAt.i18 h2, MAt.i21 h2, MAt.i22 h2, MAt.i23 h2, MAt.i24 h2, MAt.g1 h2, MAt.n1 h2, MAt.r1 h2, MAt.l1 h2, MAt.g10 h2, MAt.n10 h2, MAt.r10 h2, MAt.l10 h2, MAt.g11 h2, MAt.n11 h2, MAt.r11 h2, MAt.l11 h2, MAt.g12 h2, MAt.n12 h2, MAt.r12 h2, MAt.l12 h2, MAt.g13 h2, MAt.n13 h2, MAt.r13 h2, MAt.l13 h2, MAt.g14 h2, MAt.n14 h2, MAt.r14 h2, MAt.l14 h2, MAt.g16 h2, MAt.n16 h2, MAt.r16 h2, MAt.l16 h2, MAt.g17 h2, MAt.n17 h2, MAt.r17 h2, MAt.l17 h2, MAt.g19 h2, MAt.n19 h2, MAt.r19 h2, MAt.l19 h2, MAt.g20 h2, MAt.n20 h2, MAt.r20 h2, MAt.l20 h2, MAt.g25 h2, MAt.n25 h2, MAt.r25 h2, MAt.l25 h2, MAt.g26 h2, MAt.n26 h2, MAt.r26 h2, MAt.l26 h2, MAt.g27 h2, MAt.n27 h2, MAt.r27 h2, MAt.l27 h2, MAt.g28 h2, MAt.n28 h2, MAt.r28 h2, MAt.l28 h2, obs, b2s, lA, lB, lM, nI_add, pk_mul, v1616, v1610, v1612, v1613, v1614, v1617, v1627, v1716, v1710, v1712, v1713, v1714, v1727]
        rw [k.2.2.1.1.2.2.2.2.1]
        simp (disch := omega) only [MAt.ck h2, MAt.i0 h2, MAt.i2 h2, MAt.i3 h2, MAt.i4 h2, MAt.i5 h2, MAt.i6 h2, MAt.i7 h2, MAt.i8 h2, MAt.i9 h2, MAt.i15 h2, MAt.i18 h2, MAt.i21 h2, MAt.i22 h2, MAt.i23 h2, MAt.i24 h2, MAt.g1 h2, MAt.n1 h2, MAt.r1 h2, MAt.l1 h2, MAt.g10 h2, MAt.n10 h2, MAt.r10 h2, MAt.l10 h2, MAt.g11 h2, MAt.n11 h2, MAt.r11 h2, MAt.l11 h2, MAt.g12 h2, MAt.n12 h2, MAt.r12 h2, MAt.l12 h2, MAt.g13 h2, MAt.n13 h2, MAt.r13 h2, MAt.l13 h2, MAt.g14 h2, MAt.n14 h2, MAt.r14 h2, MAt.l14 h2, MAt.g16 h2, MAt.n16 h2, MAt.r16 h2, MAt.l16 h2, MAt.g17 h2, MAt.n17 h2, MAt.r17 h2, MAt.l17 h2, MAt.g19 h2, MAt.n19 h2, MAt.r19 h2, MAt.l19 h2, MAt.g20 h2, MAt.n20 h2, MAt.r20 h2, MAt.l20 h2, MAt.g25 h2, MAt.n25 h2, MAt.r25 h2, MAt.l25 h2, MAt.g26 h2, MAt.n26 h2, MAt.r26 h2, MAt.l26 h2, MAt.g27 h2, MAt.n27 h2, MAt.r27 h2, MAt.l27 h2, MAt.g28 h2, MAt.n28 h2, MAt.r28 h2, MAt.l28 h2, obs, b2s, lA, lB, lM, nI_add, pk_mul, v1616, v1610, v1612, v1613, v1614, v1617, v1627, v1716, v1710, v1712, v1713, v1714, v1727]
        refine RW.s16 h2 (by omega) fun M3 h3 => ?_
        simp (disch := omega) only [MAt.ck h3, MAt.i0 h3, MAt.i2 h3, MAt.i3 h3, MAt.i4 h3, MAt.i5 h3, MAt.i6 h3, MAt.i7 h3, MAt.i8 h3, MAt.i9 h3, MAt.i15 h3, MAt.i18 h3, MAt.i21 h3, MAt.i22 h3, MAt.i23 h3, MAt.i24 h3, MAt.g1 h3, MAt.n1 h3, MAt.r1 h3, MAt.l1 h3, MAt.g10 h3, MAt.n10 h3, MAt.r10 h3, MAt.l10 h3, MAt.g11 h3, MAt.n11 h3, MAt.r11 h3, MAt.l11 h3, MAt.g12 h3, MAt.n12 h3, MAt.r12 h3, MAt.l12 h3, MAt.g13 h3, MAt.n13 h3, MAt.r13 h3, MAt.l13 h3, MAt.g14 h3, MAt.n14 h3, MAt.r14 h3, MAt.l14 h3, MAt.g16 h3, MAt.n16 h3, MAt.r16 h3, MAt.l16 h3, MAt.g17 h3, MAt.n17 h3, MAt.r17 h3, MAt.l17 h3, MAt.g19 h3, MAt.n19 h3, MAt.r19 h3, MAt.l19 h3, MAt.g20 h3, MAt.n20 h3, MAt.r20 h3, MAt.l20 h3, MAt.g25 h3, MAt.n25 h3, MAt.r25 h3, MAt.l25 h3, MAt.g26 h3, MAt.n26 h3, MAt.r26 h3, MAt.l26 h3, MAt.g27 h3, MAt.n27 h3, MAt.r27 h3, MAt.l27 h3, MAt.g28 h3, MAt.n28 h3, MAt.r28 h3, MAt.l28 h3, obs, b2s, lA, lB, lM, nI_add, pk_mul, v1616, v1610, v1612, v1613, v1614, v1617, v1627, v1716, v1710, v1712, v1713, v1714, v1727]
        refine RW.s16 h3 (by omega) fun M4 h4 => ?_
        simp (disch := omega) only [MAt.ck h4, MAt.i0 h4, MAt.i2 h4, MAt.i3 h4, MAt.i4 h4, MAt.i5 h4, MAt.i6 h4, MAt.i7 h4, MAt.i8 h4, MAt.i9 h4, MAt.i15 h4, MAt.i18 h4, MAt.i21 h4, MAt.i22 h4, MAt.i23 h4, MAt.i24 h4, MAt.g1 h4, MAt.n1 h4, MAt.r1 h4, MAt.l1 h4, MAt.g10 h4, MAt.n10 h4, MAt.r10 h4, MAt.l10 h4, MAt.g11 h4, MAt.n11 h4, MAt.r11 h4, MAt.l11 h4, MAt.g12 h4, MAt.n12 h4, MAt.r12 h4, MAt.l12 h4, MAt.g13 h4, MAt.n13 h4, MAt.r13 h4, MAt.l13 h4, MAt.g14 h4, MAt.n14 h4, MAt.r14 h4, MAt.l14 h4, MAt.g16 h4, MAt.n16 h4, MAt.r16 h4, MAt.l16 h4, MAt.g17 h4, MAt.n17 h4, MAt.r17 h4, MAt.l17 h4, MAt.g19 h4, MAt.n19 h4, MAt.r19 h4, MAt.l19 h4, MAt.g20 h4, MAt.n20 h4, MAt.r20 h4, MAt.l20 h4, MAt.g25 h4, MAt.n25 h4, MAt.r25 h4, MAt.l25 h4, MAt.g26 h4, MAt.n26 h4, MAt.r26 h4, MAt.l26 h4, MAt.g27 h4, MAt.n27 h4, MAt.r27 h4, MAt.l27 h4, MAt.g28 h4, MAt.n28 h4, MAt.r28 h4, MAt.l28 h4, obs, b2s, lA, lB, lM, nI_add, pk_mul, v1616, v1610, v1612, v1613, v1614, v1617, v1627, v1716, v1710, v1712, v1713, v1714, v1727]
        refine RW.s16 h4 (by omega) fun M5 h5 => ?_
        simp (disch := omega) only [MAt.ck h5, MAt.i0 h5, MAt.i2 h5, MAt.i3 h5, MAt.i4 h5, MAt.i5 h5, MAt.i6 h5, MAt.i7 h5, MAt.i8 h5, MAt.i9 h5, MAt.i15 h5, MAt.i18 h5, MAt.i21 h5, MAt.i22 h5, MAt.i23 h5, MAt.i24 h5, MAt.g1 h5, MAt.n1 h5, MAt.r1 h5, MAt.l1 h5, MAt.g10 h5, MAt.n10 h5, MAt.r10 h5, MAt.l10 h5, MAt.g11 h5, MAt.n11 h5, MAt.r11 h5, MAt.l11 h5, MAt.g12 h5, MAt.n12 h5, MAt.r12 h5, MAt.l12 h5, MAt.g13 h5, MAt.n13 h5, MAt.r13 h5, MAt.l13 h5, MAt.g14 h5, MAt.n14 h5, MAt.r14 h5, MAt.l14 h5, MAt.g16 h5, MAt.n16 h5, MAt.r16 h5, MAt.l16 h5, MAt.g17 h5, MAt.n17 h5, MAt.r17 h5, MAt.l17 h5, MAt.g19 h5, MAt.n19 h5, MAt.r19 h5, MAt.l19 h5, MAt.g20 h5, MAt.n20 h5, MAt.r20 h5, MAt.l20 h5, MAt.g25 h5, MAt.n25 h5, MAt.r25 h5, MAt.l25 h5, MAt.g26 h5, MAt.n26 h5, MAt.r26 h5, MAt.l26 h5, MAt.g27 h5, MAt.n27 h5, MAt.r27 h5, MAt.l27 h5, MAt.g28 h5, MAt.n28 h5, MAt.r28 h5, MAt.l28 h5, obs, b2s, lA, lB, lM, nI_add, pk_mul, v1616, v1610, v1612, v1613, v1614, v1617, v1627, v1716, v1710, v1712, v1713, v1714, v1727]
        refine RW.s16 h5 (by omega) fun M6 h6 => ?_
        simp (disch := omega) only [MAt.ck h6, MAt.i0 h6, MAt.i2 h6, MAt.i3 h6, MAt.i4 h6, MAt.i5 h6, MAt.i6 h6, MAt.i7 h6, MAt.i8 h6, MAt.i9 h6, MAt.i15 h6, MAt.i18 h6, MAt.i21 h6, MAt.i22 h6, MAt.i23 h6, MAt.i24 h6, MAt.g1 h6, MAt.n1 h6, MAt.r1 h6, MAt.l1 h6, MAt.g10 h6, MAt.n10 h6, MAt.r10 h6, MAt.l10 h6, MAt.g11 h6, MAt.n11 h6, MAt.r11 h6, MAt.l11 h6, MAt.g12 h6, MAt.n12 h6, MAt.r12 h6, MAt.l12 h6, MAt.g13 h6, MAt.n13 h6, MAt.r13 h6, MAt.l13 h6, MAt.g14 h6, MAt.n14 h6, MAt.r14 h6, MAt.l14 h6, MAt.g16 h6, MAt.n16 h6, MAt.r16 h6, MAt.l16 h6, MAt.g17 h6, MAt.n17 h6, MAt.r17 h6, MAt.l17 h6, MAt.g19 h6, MAt.n19 h6, MAt.r19 h6, MAt.l19 h6, MAt.g20 h6, MAt.n20 h6, MAt.r20 h6, MAt.l20 h6, MAt.g25 h6, MAt.n25 h6, MAt.r25 h6, MAt.l25 h6, MAt.g26 h6, MAt.n26 h6, MAt.r26 h6, MAt.l26 h6, MAt.g27 h6, MAt.n27 h6, MAt.r27 h6, MAt.l27 h6, MAt.g28 h6, MAt.n28 h6, MAt.r28 h6, MAt.l28 h6, obs, b2s, lA, lB, lM, nI_add, pk_mul, v1616, v1610, v1612, v1613, v1614, v1617, v1627, v1716, v1710, v1712, v1713, v1714, v1727]
        refine RW.s16 (j := 8) h6 (by omega) fun M7 h7 => ?_
        refine RW.ret h7 ⟨rfl, k.kept q2 hu ?_⟩
        generalize hn : (σ.2 5).length = n at *
        have eb := fun i (hi : i < n) => k.2.2.1.2.2.2.2.2.2.2.1 i (by omega)
        have a13 : A 13 j = (κ.2 10).getD j 0 := (k.2.1.2.2.2 j hj).1
        have a16 : upd (A 16) (202 + n) ((κ.2 10).getD j 0) (14 + j) = (σ.2 2).getD j 0 := by rw [pk_un (by omega)]; exact ej
        have a8 : upd (upd (upd (upd (A 16) (202 + n) ((κ.2 10).getD j 0)) (232 + n) ((σ.2 2).getD j 0)) (262 + n) 0) (14 + j) 0 8 = nI n := by
          rw [pk_un (by omega), pk_un (by omega), pk_un (by omega), pk_un (by omega), k.2.2.1.1.2.2.2.2.1, hn]
        rw [a13, a16, a8, nI_1]
        rw [show (σ.2 2).getD j 0 + (0 - (σ.2 2).getD j 0) = 0 by rw [Int32.zero_sub, Int32.add_neg_eq_sub, Int32.sub_self]]
        refine RelS.bin (s := upd (upd (upd (upd (A 16) (202 + n) ((κ.2 10).getD j 0)) (232 + n) ((σ.2 2).getD j 0)) (262 + n) 0) 8 (nI (n + 1))) (k.2.2.1.bag (l := σ.2 5 ++ [(κ.2 10).getD j 0]) (l2 := σ.2 6 ++ [(σ.2 2).getD j 0]) (l3 := σ.2 7 ++ [-1]) (fun q hq hq2 => ?_) ?_ ?_ ?_ ?_ (fun i hi => ?_)) (fun q hq hq2 => ?_) ?_ (fun i hi => ?_)
        · rw [pk_un (by omega), pk_un (by omega), pk_un (by omega), pk_un (by omega)]
        · rw [pk_us, List.length_append, hn]; rfl
        · rw [List.length_append, hn]; show n + 1 ≤ 30; omega
        · rw [List.length_append, List.length_append, hl6, hn]; rfl
        · rw [List.length_append, List.length_append, hl7, hn]; rfl
        · rw [List.length_append, hn] at hi
          have hi' : i < n + 1 := hi
          by_cases he : i = n
          · subst he
            rw [getD_app1 hn.symm, getD_app1 (by omega), getD_app1 (by omega), pk_un (by omega), pk_un (by omega), pk_un (by omega), pk_us, pk_un (by omega), pk_un (by omega), pk_us, pk_un (by omega), pk_us]
            exact ⟨rfl, rfl, rfl⟩
          · rw [getD_app (by omega), getD_app (by omega), getD_app (by omega)]
            obtain ⟨z1, z2, z3⟩ := eb i (by omega)
            refine ⟨?_, ?_, ?_⟩
            · rw [pk_un (by omega), pk_un (by omega), pk_un (by omega), pk_un (by omega)]; exact z1
            · rw [pk_un (by omega), pk_un (by omega), pk_un (by omega), pk_un (by omega)]; exact z2
            · rw [pk_un (by omega), pk_un (by omega), pk_un (by omega), pk_un (by omega)]; exact z3
        · by_cases h8 : q = 8
          · rw [h8, pk_us, pk_us]
          · rw [pk_un h8, pk_un (by omega), pk_un h8]
        · rw [List.length_set]; omega
        · rw [List.length_set] at hi
          rw [pk_un (by omega)]
          by_cases he : i = j
          · subst he
            rw [pk_us]
            simp [hi]
          · rw [pk_un (by omega), pk_un (by omega), pk_un (by omega), pk_un (by omega), k.2.2.1.2.2.2.1 i hi]
            simp [List.getD_eq_getElem?_getD, List.getElem?_set_ne (Ne.symm he)]
  · simp only [if_neg g1]
    rw [if_pos trivial]
    exact RW.ret h1 ⟨rfl, k1⟩
theorem rf_addSample (hN : 2 ^ 15 ≤ N) (h : MAt M F A) (k : Rel F A bf κ σ U sn) (w : WF κ σ U sn) (d a l : Int32) : RO bf κ sn M (fn_X10_addSample N M 389 d a l) (asI κ σ U d a l) := by
  unfold RO fn_X10_addSample asI
  have hl8 := k.2.2.1.2.1.2.2.2.2.2.2.2.2.1
  have hl9 := k.2.2.1.2.1.2.2.2.2.2.2.2.2.2
  refine RW.pF h fun M1 h1 => ?_
  have k1 : Rel (upd F 0 0) A bf κ σ U sn := k.qc Qt.u0
  rw [ev_coin, b2s]
  by_cases g1 : meI d a = true
  · simp only [if_pos g1, if_neg (show ¬ (1 : Int32) = 0 by decide)]
    obtain ⟨x, y, x1, x2, y1, rfl, rfl⟩ := meI_of g1
    have main : RW M1 (fn_X10_addSample_28 N M1 389 (nI x) (nI y) l) (fun r F' A' => r = (if (σ.2 8).length < 40 then (nI ((σ.2 8).length + 1), (σ.1, va_up (va_up σ.2 8 (σ.2 8 ++ [nI x * 10000 + nI y])) 9 (σ.2 9 ++ [l])), pushU σ U) else (-3, σ, U) : Oc).1 ∧ Rel F' A' bf κ (if (σ.2 8).length < 40 then (nI ((σ.2 8).length + 1), (σ.1, va_up (va_up σ.2 8 (σ.2 8 ++ [nI x * 10000 + nI y])) 9 (σ.2 9 ++ [l])), pushU σ U) else (-3, σ, U) : Oc).2.1 (if (σ.2 8).length < 40 then (nI ((σ.2 8).length + 1), (σ.1, va_up (va_up σ.2 8 (σ.2 8 ++ [nI x * 10000 + nI y])) 9 (σ.2 9 ++ [l])), pushU σ U) else (-3, σ, U) : Oc).2.2 sn) := by
      unfold fn_X10_addSample_28
      simp (disch := omega) only [MAt.ck h1, MAt.i0 h1, MAt.i2 h1, MAt.i3 h1, MAt.i4 h1, MAt.i5 h1, MAt.i6 h1, MAt.i7 h1, MAt.i8 h1, MAt.i9 h1, MAt.i15 h1, MAt.i18 h1, MAt.i21 h1, MAt.i22 h1, MAt.i23 h1, MAt.i24 h1, MAt.g1 h1, MAt.n1 h1, MAt.r1 h1, MAt.l1 h1, MAt.g10 h1, MAt.n10 h1, MAt.r10 h1, MAt.l10 h1, MAt.g11 h1, MAt.n11 h1, MAt.r11 h1, MAt.l11 h1, MAt.g12 h1, MAt.n12 h1, MAt.r12 h1, MAt.l12 h1, MAt.g13 h1, MAt.n13 h1, MAt.r13 h1, MAt.l13 h1, MAt.g14 h1, MAt.n14 h1, MAt.r14 h1, MAt.l14 h1, MAt.g16 h1, MAt.n16 h1, MAt.r16 h1, MAt.l16 h1, MAt.g17 h1, MAt.n17 h1, MAt.r17 h1, MAt.l17 h1, MAt.g19 h1, MAt.n19 h1, MAt.r19 h1, MAt.l19 h1, MAt.g20 h1, MAt.n20 h1, MAt.r20 h1, MAt.l20 h1, MAt.g25 h1, MAt.n25 h1, MAt.r25 h1, MAt.l25 h1, MAt.g26 h1, MAt.n26 h1, MAt.r26 h1, MAt.l26 h1, MAt.g27 h1, MAt.n27 h1, MAt.r27 h1, MAt.l27 h1, MAt.g28 h1, MAt.n28 h1, MAt.r28 h1, MAt.l28 h1, obs, b2s, lA, lB, lM, nI_add, pk_mul]
      rw [k.2.2.1.1.2.2.2.2.2]
      have hc := lEq (m := 40) (n := (σ.2 8).length) (by decide) (by omega)
      by_cases g3 : (σ.2 8).length = 40
      · rw [if_pos (hc.mpr g3), if_neg (by omega)]
        exact RW.ret h1 ⟨rfl, k1⟩
      · rw [if_neg (fun q => g3 (hc.mp q)), if_pos (by omega)]
        refine RW.call (rf_keep2 hN h1 k1) ?_
        rintro r M2 F2 A2 h2 ⟨q0, q2, H, rfl, hu⟩
        simp (disch := omega) only [MAt.ck h2, MAt.i0 h2, MAt.i2 h2, MAt.i3 h2, MAt.i4 h2, MAt.i5 h2, MAt.i6 h2, MAt.i7 h2, MAt.i8 h2, MAt.i9 h2, MAt.i15 h2, MAt.i18 h2, MAt.i21 h2, MAt.i22 h2, MAt.i23 h2, MAt.i24 h2, MAt.g1 h2, MAt.n1 h2, MAt.r1 h2, MAt.l1 h2, MAt.g10 h2, MAt.n10 h2, MAt.r10 h2, MAt.l10 h2, MAt.g11 h2, MAt.n11 h2, MAt.r11 h2, MAt.l11 h2, MAt.g12 h2, MAt.n12 h2, MAt.r12 h2, MAt.l12 h2, MAt.g13 h2, MAt.n13 h2, MAt.r13 h2, MAt.l13 h2, MAt.g14 h2, MAt.n14 h2, MAt.r14 h2, MAt.l14 h2, MAt.g16 h2, MAt.n16 h2, MAt.r16 h2, MAt.l16 h2, MAt.g17 h2, MAt.n17 h2, MAt.r17 h2, MAt.l17 h2, MAt.g19 h2, MAt.n19 h2, MAt.r19 h2, MAt.l19 h2, MAt.g20 h2, MAt.n20 h2, MAt.r20 h2, MAt.l20 h2, MAt.g25 h2, MAt.n25 h2, MAt.r25 h2, MAt.l25 h2, MAt.g26 h2, MAt.n26 h2, MAt.r26 h2, MAt.l26 h2, MAt.g27 h2, MAt.n27 h2, MAt.r27 h2, MAt.l27 h2, MAt.g28 h2, MAt.n28 h2, MAt.r28 h2, MAt.l28 h2, obs, b2s, lA, lB, lM, nI_add, pk_mul, v1616, v1610, v1612, v1613, v1614, v1617, v1627, v1716, v1710, v1712, v1713, v1714, v1727]
        rw [k.2.2.1.1.2.2.2.2.2]
        simp (disch := omega) only [MAt.ck h2, MAt.i0 h2, MAt.i2 h2, MAt.i3 h2, MAt.i4 h2, MAt.i5 h2, MAt.i6 h2, MAt.i7 h2, MAt.i8 h2, MAt.i9 h2, MAt.i15 h2, MAt.i18 h2, MAt.i21 h2, MAt.i22 h2, MAt.i23 h2, MAt.i24 h2, MAt.g1 h2, MAt.n1 h2, MAt.r1 h2, MAt.l1 h2, MAt.g10 h2, MAt.n10 h2, MAt.r10 h2, MAt.l10 h2, MAt.g11 h2, MAt.n11 h2, MAt.r11 h2, MAt.l11 h2, MAt.g12 h2, MAt.n12 h2, MAt.r12 h2, MAt.l12 h2, MAt.g13 h2, MAt.n13 h2, MAt.r13 h2, MAt.l13 h2, MAt.g14 h2, MAt.n14 h2, MAt.r14 h2, MAt.l14 h2, MAt.g16 h2, MAt.n16 h2, MAt.r16 h2, MAt.l16 h2, MAt.g17 h2, MAt.n17 h2, MAt.r17 h2, MAt.l17 h2, MAt.g19 h2, MAt.n19 h2, MAt.r19 h2, MAt.l19 h2, MAt.g20 h2, MAt.n20 h2, MAt.r20 h2, MAt.l20 h2, MAt.g25 h2, MAt.n25 h2, MAt.r25 h2, MAt.l25 h2, MAt.g26 h2, MAt.n26 h2, MAt.r26 h2, MAt.l26 h2, MAt.g27 h2, MAt.n27 h2, MAt.r27 h2, MAt.l27 h2, MAt.g28 h2, MAt.n28 h2, MAt.r28 h2, MAt.l28 h2, obs, b2s, lA, lB, lM, nI_add, pk_mul, v1616, v1610, v1612, v1613, v1614, v1617, v1627, v1716, v1710, v1712, v1713, v1714, v1727]
        refine RW.s16 h2 (by omega) fun M3 h3 => ?_
        simp (disch := omega) only [MAt.ck h3, MAt.i0 h3, MAt.i2 h3, MAt.i3 h3, MAt.i4 h3, MAt.i5 h3, MAt.i6 h3, MAt.i7 h3, MAt.i8 h3, MAt.i9 h3, MAt.i15 h3, MAt.i18 h3, MAt.i21 h3, MAt.i22 h3, MAt.i23 h3, MAt.i24 h3, MAt.g1 h3, MAt.n1 h3, MAt.r1 h3, MAt.l1 h3, MAt.g10 h3, MAt.n10 h3, MAt.r10 h3, MAt.l10 h3, MAt.g11 h3, MAt.n11 h3, MAt.r11 h3, MAt.l11 h3, MAt.g12 h3, MAt.n12 h3, MAt.r12 h3, MAt.l12 h3, MAt.g13 h3, MAt.n13 h3, MAt.r13 h3, MAt.l13 h3, MAt.g14 h3, MAt.n14 h3, MAt.r14 h3, MAt.l14 h3, MAt.g16 h3, MAt.n16 h3, MAt.r16 h3, MAt.l16 h3, MAt.g17 h3, MAt.n17 h3, MAt.r17 h3, MAt.l17 h3, MAt.g19 h3, MAt.n19 h3, MAt.r19 h3, MAt.l19 h3, MAt.g20 h3, MAt.n20 h3, MAt.r20 h3, MAt.l20 h3, MAt.g25 h3, MAt.n25 h3, MAt.r25 h3, MAt.l25 h3, MAt.g26 h3, MAt.n26 h3, MAt.r26 h3, MAt.l26 h3, MAt.g27 h3, MAt.n27 h3, MAt.r27 h3, MAt.l27 h3, MAt.g28 h3, MAt.n28 h3, MAt.r28 h3, MAt.l28 h3, obs, b2s, lA, lB, lM, nI_add, pk_mul, v1616, v1610, v1612, v1613, v1614, v1617, v1627, v1716, v1710, v1712, v1713, v1714, v1727]
        refine RW.s16 h3 (by omega) fun M4 h4 => ?_
        simp (disch := omega) only [MAt.ck h4, MAt.i0 h4, MAt.i2 h4, MAt.i3 h4, MAt.i4 h4, MAt.i5 h4, MAt.i6 h4, MAt.i7 h4, MAt.i8 h4, MAt.i9 h4, MAt.i15 h4, MAt.i18 h4, MAt.i21 h4, MAt.i22 h4, MAt.i23 h4, MAt.i24 h4, MAt.g1 h4, MAt.n1 h4, MAt.r1 h4, MAt.l1 h4, MAt.g10 h4, MAt.n10 h4, MAt.r10 h4, MAt.l10 h4, MAt.g11 h4, MAt.n11 h4, MAt.r11 h4, MAt.l11 h4, MAt.g12 h4, MAt.n12 h4, MAt.r12 h4, MAt.l12 h4, MAt.g13 h4, MAt.n13 h4, MAt.r13 h4, MAt.l13 h4, MAt.g14 h4, MAt.n14 h4, MAt.r14 h4, MAt.l14 h4, MAt.g16 h4, MAt.n16 h4, MAt.r16 h4, MAt.l16 h4, MAt.g17 h4, MAt.n17 h4, MAt.r17 h4, MAt.l17 h4, MAt.g19 h4, MAt.n19 h4, MAt.r19 h4, MAt.l19 h4, MAt.g20 h4, MAt.n20 h4, MAt.r20 h4, MAt.l20 h4, MAt.g25 h4, MAt.n25 h4, MAt.r25 h4, MAt.l25 h4, MAt.g26 h4, MAt.n26 h4, MAt.r26 h4, MAt.l26 h4, MAt.g27 h4, MAt.n27 h4, MAt.r27 h4, MAt.l27 h4, MAt.g28 h4, MAt.n28 h4, MAt.r28 h4, MAt.l28 h4, obs, b2s, lA, lB, lM, nI_add, pk_mul, v1616, v1610, v1612, v1613, v1614, v1617, v1627, v1716, v1710, v1712, v1713, v1714, v1727]
        refine RW.s16 h4 (by omega) fun M5 h5 => ?_
        simp (disch := omega) only [MAt.ck h5, MAt.i0 h5, MAt.i2 h5, MAt.i3 h5, MAt.i4 h5, MAt.i5 h5, MAt.i6 h5, MAt.i7 h5, MAt.i8 h5, MAt.i9 h5, MAt.i15 h5, MAt.i18 h5, MAt.i21 h5, MAt.i22 h5, MAt.i23 h5, MAt.i24 h5, MAt.g1 h5, MAt.n1 h5, MAt.r1 h5, MAt.l1 h5, MAt.g10 h5, MAt.n10 h5, MAt.r10 h5, MAt.l10 h5, MAt.g11 h5, MAt.n11 h5, MAt.r11 h5, MAt.l11 h5, MAt.g12 h5, MAt.n12 h5, MAt.r12 h5, MAt.l12 h5, MAt.g13 h5, MAt.n13 h5, MAt.r13 h5, MAt.l13 h5, MAt.g14 h5, MAt.n14 h5, MAt.r14 h5, MAt.l14 h5, MAt.g16 h5, MAt.n16 h5, MAt.r16 h5, MAt.l16 h5, MAt.g17 h5, MAt.n17 h5, MAt.r17 h5, MAt.l17 h5, MAt.g19 h5, MAt.n19 h5, MAt.r19 h5, MAt.l19 h5, MAt.g20 h5, MAt.n20 h5, MAt.r20 h5, MAt.l20 h5, MAt.g25 h5, MAt.n25 h5, MAt.r25 h5, MAt.l25 h5, MAt.g26 h5, MAt.n26 h5, MAt.r26 h5, MAt.l26 h5, MAt.g27 h5, MAt.n27 h5, MAt.r27 h5, MAt.l27 h5, MAt.g28 h5, MAt.n28 h5, MAt.r28 h5, MAt.l28 h5, obs, b2s, lA, lB, lM, nI_add, pk_mul, v1616, v1610, v1612, v1613, v1614, v1617, v1627, v1716, v1710, v1712, v1713, v1714, v1727]
        generalize hn : (σ.2 8).length = n at *
        have e9 : upd (upd (upd (A 16) (292 + 3 * n) (nI x)) (292 + 3 * n + 1) (nI y)) (292 + 3 * n + 2) l 9 = nI n := by
          rw [pk_un (by omega), pk_un (by omega), pk_un (by omega), k.2.2.1.1.2.2.2.2.2, hn]
        rw [e9, nI_1]
        refine RW.s16 (j := 9) h5 (by omega) fun M6 h6 => ?_
        simp (disch := omega) only [MAt.ck h6, MAt.i0 h6, MAt.i2 h6, MAt.i3 h6, MAt.i4 h6, MAt.i5 h6, MAt.i6 h6, MAt.i7 h6, MAt.i8 h6, MAt.i9 h6, MAt.i15 h6, MAt.i18 h6, MAt.i21 h6, MAt.i22 h6, MAt.i23 h6, MAt.i24 h6, MAt.g1 h6, MAt.n1 h6, MAt.r1 h6, MAt.l1 h6, MAt.g10 h6, MAt.n10 h6, MAt.r10 h6, MAt.l10 h6, MAt.g11 h6, MAt.n11 h6, MAt.r11 h6, MAt.l11 h6, MAt.g12 h6, MAt.n12 h6, MAt.r12 h6, MAt.l12 h6, MAt.g13 h6, MAt.n13 h6, MAt.r13 h6, MAt.l13 h6, MAt.g14 h6, MAt.n14 h6, MAt.r14 h6, MAt.l14 h6, MAt.g16 h6, MAt.n16 h6, MAt.r16 h6, MAt.l16 h6, MAt.g17 h6, MAt.n17 h6, MAt.r17 h6, MAt.l17 h6, MAt.g19 h6, MAt.n19 h6, MAt.r19 h6, MAt.l19 h6, MAt.g20 h6, MAt.n20 h6, MAt.r20 h6, MAt.l20 h6, MAt.g25 h6, MAt.n25 h6, MAt.r25 h6, MAt.l25 h6, MAt.g26 h6, MAt.n26 h6, MAt.r26 h6, MAt.l26 h6, MAt.g27 h6, MAt.n27 h6, MAt.r27 h6, MAt.l27 h6, MAt.g28 h6, MAt.n28 h6, MAt.r28 h6, MAt.l28 h6, obs, b2s, lA, lB, lM, nI_add, pk_mul, v1616, v1610, v1612, v1613, v1614, v1617, v1627, v1716, v1710, v1712, v1713, v1714, v1727]
        refine RW.ret h6 ⟨by rw [pk_us], k.kept q2 hu ?_⟩
        refine k.2.2.1.smp (l := σ.2 8 ++ [nI x * 10000 + nI y]) (l2 := σ.2 9 ++ [l]) (fun q hq hq2 => ?_) ?_ ?_ ?_ (fun i hi => ?_)
        · rw [pk_un (by omega), pk_un (by omega), pk_un (by omega), pk_un (by omega)]
        · rw [pk_us, List.length_append, hn]; rfl
        · rw [List.length_append, hn]; show n + 1 ≤ 40; omega
        · rw [List.length_append, List.length_append, hl9, hn]; rfl
        · rw [List.length_append, hn] at hi
          have hi' : i < n + 1 := hi
          by_cases he : i = n
          · subst he
            rw [getD_app1 hn.symm, getD_app1 (by omega), coin_nI, coin_a x2 y1, coin_d x2 y1, pk_un (by omega), pk_un (by omega), pk_un (by omega), pk_us, pk_un (by omega), pk_un (by omega), pk_us, pk_un (by omega), pk_us]
            exact ⟨rfl, rfl, rfl⟩
          · rw [getD_app (by omega), getD_app (by omega)]
            obtain ⟨z1, z2, z3⟩ := k.2.2.1.2.2.2.2.2.2.2.2 i (by omega)
            refine ⟨?_, ?_, ?_⟩
            · rw [pk_un (by omega), pk_un (by omega), pk_un (by omega), pk_un (by omega)]; exact z1
            · rw [pk_un (by omega), pk_un (by omega), pk_un (by omega), pk_un (by omega)]; exact z2
            · rw [pk_un (by omega), pk_un (by omega), pk_un (by omega), pk_un (by omega)]; exact z3
    by_cases h4 : l = -1
    · rw [if_pos h4]
      simp only [if_pos (show l = -1 ∨ hasI (κ.2 0).length l = true from Or.inl h4)]
      exact main
    · rw [if_neg h4, h1.ck, obs, rf_isType h1 k.2.1 w.1, b2s]
      by_cases h5 : hasI (κ.2 0).length l = true
      · simp only [if_pos (show l = -1 ∨ hasI (κ.2 0).length l = true from Or.inr h5)]
        rw [if_pos h5, if_neg (by decide)]
        exact main
      · simp only [if_neg (show ¬ (l = -1 ∨ hasI (κ.2 0).length l = true) from by intro q; rcases q with q | q; exact h4 q; exact h5 q)]
        rw [if_neg h5, if_pos rfl]
        exact RW.ret h1 ⟨rfl, k1⟩
  · simp only [if_neg g1]
    rw [if_pos trivial]
    exact RW.ret h1 ⟨rfl, k1⟩
theorem rf_audit (hN : 2 ^ 15 ≤ N) (h : MAt M F A) (k : Rel F A bf κ σ U sn) (w : WF κ σ U sn) (b x : Int32) : RW M (fn_X10_audit N M 389 b x) (fun r F' A' => F' 0 = (adI σ U b x).1 ∧ ((adI σ U b x).1 = 0 → r = (adI σ U b x).2.1) ∧ Rel F' A' bf κ (adI σ U b x).2.2.1 (adI σ U b x).2.2.2 sn) := by
  unfold fn_X10_audit
  have hl5 := k.2.2.1.2.1.2.2.2.2.2.1
  have hl6 := k.2.2.1.2.1.2.2.2.2.2.2.1
  have hl7 := k.2.2.1.2.1.2.2.2.2.2.2.2.1
  refine RW.pF h fun M1 h1 => ?_
  have k1 : Rel (upd F 0 0) A bf κ σ U sn := k.qc Qt.u0
  have fl : ∀ (v : Int32), adI σ U b x = (v, 0, σ, U) → ¬ v = 0 → RW M1 (mm_b2 (fn_X10_fail N M1 389 v) fun v18 M17 => some (v18, M17)) (fun r F' A' => F' 0 = (adI σ U b x).1 ∧ ((adI σ U b x).1 = 0 → r = (adI σ U b x).2.1) ∧ Rel F' A' bf κ (adI σ U b x).2.2.1 (adI σ U b x).2.2.2 sn) := by
    intro v e hv
    refine RW.call (rf_fail h1 _) ?_
    rintro r M' F' A' h' ⟨rfl, rfl⟩
    rw [e]
    exact RW.ret h' ⟨rfl, fun q => absurd q hv, k.qc (Qt.u0.tr Qt.u0)⟩
  rw [h1.ck, obs, rf_isBag h1 k.2.2.1, b2s]
  by_cases g1 : hasI (σ.2 5).length b = true
  · rw [if_pos g1, if_neg (by decide), L0, L200, ev_within, b2s]
    by_cases g2 : 0 ≤ x ∧ x ≤ 200
    · rw [if_pos g2, if_neg (by decide)]
      obtain ⟨j, hj, rfl⟩ := hasI_of g1 (by omega)
      obtain ⟨z1, z2, z3⟩ := k.2.2.1.2.2.2.2.2.2.2.1 j hj
      have ea : atI (σ.2 7) (nI j) = (σ.2 7).getD j 0 := atI_nI (by omega) (by omega)
      simp (disch := omega) only [MAt.ck h1, MAt.i0 h1, MAt.i2 h1, MAt.i3 h1, MAt.i4 h1, MAt.i5 h1, MAt.i6 h1, MAt.i7 h1, MAt.i8 h1, MAt.i9 h1, MAt.i15 h1, MAt.i18 h1, MAt.i21 h1, MAt.i22 h1, MAt.i23 h1, MAt.i24 h1, MAt.g1 h1, MAt.n1 h1, MAt.r1 h1, MAt.l1 h1, MAt.g10 h1, MAt.n10 h1, MAt.r10 h1, MAt.l10 h1, MAt.g11 h1, MAt.n11 h1, MAt.r11 h1, MAt.l11 h1, MAt.g12 h1, MAt.n12 h1, MAt.r12 h1, MAt.l12 h1, MAt.g13 h1, MAt.n13 h1, MAt.r13 h1, MAt.l13 h1, MAt.g14 h1, MAt.n14 h1, MAt.r14 h1, MAt.l14 h1, MAt.g16 h1, MAt.n16 h1, MAt.r16 h1, MAt.l16 h1, MAt.g17 h1, MAt.n17 h1, MAt.r17 h1, MAt.l17 h1, MAt.g19 h1, MAt.n19 h1, MAt.r19 h1, MAt.l19 h1, MAt.g20 h1, MAt.n20 h1, MAt.r20 h1, MAt.l20 h1, MAt.g25 h1, MAt.n25 h1, MAt.r25 h1, MAt.l25 h1, MAt.g26 h1, MAt.n26 h1, MAt.r26 h1, MAt.l26 h1, MAt.g27 h1, MAt.n27 h1, MAt.r27 h1, MAt.l27 h1, MAt.g28 h1, MAt.n28 h1, MAt.r28 h1, MAt.l28 h1, obs, b2s, lA, lB, lM, nI_add, pk_mul]
      rw [z3]
      by_cases g3 : (σ.2 7).getD j 0 = -1
      · have e : adI σ U (nI j) x = (0, x - atI (σ.2 6) (nI j), (σ.1, va_up σ.2 7 ((σ.2 7).set (nI j).toNatClampNeg x)), pushU σ U) := by
          unfold adI; rw [if_pos g1, if_neg (Int32.not_lt.mpr g2.1), if_pos g2.2, if_pos (ea.trans g3)]
        rw [nI_clamp (by omega), atI_nI (by omega) (by omega)] at e
        rw [if_pos (by rw [g3]; decide), e]
        refine RW.call (rf_keep2 hN h1 k1) ?_
        rintro r M2 F2 A2 h2 ⟨q0, q2, H, rfl, hu⟩
        simp (disch := omega) only [MAt.ck h2, MAt.i0 h2, MAt.i2 h2, MAt.i3 h2, MAt.i4 h2, MAt.i5 h2, MAt.i6 h2, MAt.i7 h2, MAt.i8 h2, MAt.i9 h2, MAt.i15 h2, MAt.i18 h2, MAt.i21 h2, MAt.i22 h2, MAt.i23 h2, MAt.i24 h2, MAt.g1 h2, MAt.n1 h2, MAt.r1 h2, MAt.l1 h2, MAt.g10 h2, MAt.n10 h2, MAt.r10 h2, MAt.l10 h2, MAt.g11 h2, MAt.n11 h2, MAt.r11 h2, MAt.l11 h2, MAt.g12 h2, MAt.n12 h2, MAt.r12 h2, MAt.l12 h2, MAt.g13 h2, MAt.n13 h2, MAt.r13 h2, MAt.l13 h2, MAt.g14 h2, MAt.n14 h2, MAt.r14 h2, MAt.l14 h2, MAt.g16 h2, MAt.n16 h2, MAt.r16 h2, MAt.l16 h2, MAt.g17 h2, MAt.n17 h2, MAt.r17 h2, MAt.l17 h2, MAt.g19 h2, MAt.n19 h2, MAt.r19 h2, MAt.l19 h2, MAt.g20 h2, MAt.n20 h2, MAt.r20 h2, MAt.l20 h2, MAt.g25 h2, MAt.n25 h2, MAt.r25 h2, MAt.l25 h2, MAt.g26 h2, MAt.n26 h2, MAt.r26 h2, MAt.l26 h2, MAt.g27 h2, MAt.n27 h2, MAt.r27 h2, MAt.l27 h2, MAt.g28 h2, MAt.n28 h2, MAt.r28 h2, MAt.l28 h2, obs, b2s, lA, lB, lM, nI_add, pk_mul, v1616, v1610, v1612, v1613, v1614, v1617, v1627, v1716, v1710, v1712, v1713, v1714, v1727]
        refine RW.s16 h2 (by omega) fun M3 h3 => ?_
        simp (disch := omega) only [MAt.ck h3, MAt.i0 h3, MAt.i2 h3, MAt.i3 h3, MAt.i4 h3, MAt.i5 h3, MAt.i6 h3, MAt.i7 h3, MAt.i8 h3, MAt.i9 h3, MAt.i15 h3, MAt.i18 h3, MAt.i21 h3, MAt.i22 h3, MAt.i23 h3, MAt.i24 h3, MAt.g1 h3, MAt.n1 h3, MAt.r1 h3, MAt.l1 h3, MAt.g10 h3, MAt.n10 h3, MAt.r10 h3, MAt.l10 h3, MAt.g11 h3, MAt.n11 h3, MAt.r11 h3, MAt.l11 h3, MAt.g12 h3, MAt.n12 h3, MAt.r12 h3, MAt.l12 h3, MAt.g13 h3, MAt.n13 h3, MAt.r13 h3, MAt.l13 h3, MAt.g14 h3, MAt.n14 h3, MAt.r14 h3, MAt.l14 h3, MAt.g16 h3, MAt.n16 h3, MAt.r16 h3, MAt.l16 h3, MAt.g17 h3, MAt.n17 h3, MAt.r17 h3, MAt.l17 h3, MAt.g19 h3, MAt.n19 h3, MAt.r19 h3, MAt.l19 h3, MAt.g20 h3, MAt.n20 h3, MAt.r20 h3, MAt.l20 h3, MAt.g25 h3, MAt.n25 h3, MAt.r25 h3, MAt.l25 h3, MAt.g26 h3, MAt.n26 h3, MAt.r26 h3, MAt.l26 h3, MAt.g27 h3, MAt.n27 h3, MAt.r27 h3, MAt.l27 h3, MAt.g28 h3, MAt.n28 h3, MAt.r28 h3, MAt.l28 h3, obs, b2s, lA, lB, lM, nI_add, pk_mul, v1616, v1610, v1612, v1613, v1614, v1617, v1627, v1716, v1710, v1712, v1713, v1714, v1727]
        refine RW.ret h3 ⟨q0, fun _ => ?_, k.kept q2 hu ?_⟩
        · rw [pk_un (by omega), z2]
        · have hb := k.2.2.1.bag (s' := upd (A 16) (262 + j) (x + 1)) (l := σ.2 5) (l2 := σ.2 6) (l3 := (σ.2 7).set j x) (fun q hq hq2 => pk_un (by omega)) (by rw [pk_un (by omega)]; exact k.2.2.1.1.2.2.2.2.1) hl5 hl6 (by rw [List.length_set]; exact hl7) (fun i hi => by
            obtain ⟨y1, y2, y3⟩ := k.2.2.1.2.2.2.2.2.2.2.1 i hi
            refine ⟨by rw [pk_un (by omega)]; exact y1, by rw [pk_un (by omega)]; exact y2, ?_⟩
            by_cases he : i = j
            · subst he
              rw [pk_us]
              have : i < (σ.2 7).length := by omega
              simp [this]
            · rw [pk_un (by omega), y3]
              simp [List.getD_eq_getElem?_getD, List.getElem?_set_ne (Ne.symm he)])
          have e2 : va_up (va_up (va_up σ.2 5 (σ.2 5)) 6 (σ.2 6)) 7 ((σ.2 7).set j x) = va_up σ.2 7 ((σ.2 7).set j x) := by
            funext q
            unfold va_up
            split
            · rfl
            · split
              · rename_i z; rw [z]
              · split
                · rename_i z; rw [z]
                · rfl
          rw [e2] at hb
          exact hb
      · have e : adI σ U (nI j) x = (3, 0, σ, U) := by
          unfold adI; rw [if_pos g1, if_neg (Int32.not_lt.mpr g2.1), if_pos g2.2, if_neg (fun q => g3 (ea.symm.trans q))]
        rw [if_neg]
        · exact fl 3 e (by decide)
        · rcases w.2.1.2.2.2.2.1 j (by omega) with q | ⟨n, n1, n2, n3⟩
          · exact absurd q g3
          · rw [n3, nI_1]
            exact nI_nle (by omega) (by omega)
    · rw [if_neg g2, if_pos rfl, h1.ck, obs]
      refine fl 2 ?_ (by decide)
      unfold adI
      rw [if_pos g1]
      by_cases g3 : x < 0
      · rw [if_pos g3]
      · rw [if_neg g3, if_neg (fun q => g2 ⟨Int32.not_lt.mp g3, q⟩)]
  · rw [if_neg g1, if_pos rfl, h1.ck, obs]
    refine fl 1 ?_ (by decide)
    unfold adI
    rw [if_neg g1]
theorem rf_undo (hN : 2 ^ 15 ≤ N) (h : MAt M F A) (k : Rel F A bf κ σ U sn) : RO bf κ sn M (fn_X10_undo N M 389) (udI σ U) := by
  unfold RO fn_X10_undo
  refine RW.pF h fun M1 h1 => ?_
  have k1 : Rel (upd F 0 0) A bf κ σ U sn := k.qc Qt.u0
  obtain ⟨u1, u2, u3⟩ := k1.2.2.2.1
  simp (disch := omega) only [MAt.ck h1, MAt.i0 h1, MAt.i2 h1, MAt.i3 h1, MAt.i4 h1, MAt.i5 h1, MAt.i6 h1, MAt.i7 h1, MAt.i8 h1, MAt.i9 h1, MAt.i15 h1, MAt.i18 h1, MAt.i21 h1, MAt.i22 h1, MAt.i23 h1, MAt.i24 h1, MAt.g1 h1, MAt.n1 h1, MAt.r1 h1, MAt.l1 h1, MAt.g10 h1, MAt.n10 h1, MAt.r10 h1, MAt.l10 h1, MAt.g11 h1, MAt.n11 h1, MAt.r11 h1, MAt.l11 h1, MAt.g12 h1, MAt.n12 h1, MAt.r12 h1, MAt.l12 h1, MAt.g13 h1, MAt.n13 h1, MAt.r13 h1, MAt.l13 h1, MAt.g14 h1, MAt.n14 h1, MAt.r14 h1, MAt.l14 h1, MAt.g16 h1, MAt.n16 h1, MAt.r16 h1, MAt.l16 h1, MAt.g17 h1, MAt.n17 h1, MAt.r17 h1, MAt.l17 h1, MAt.g19 h1, MAt.n19 h1, MAt.r19 h1, MAt.l19 h1, MAt.g20 h1, MAt.n20 h1, MAt.r20 h1, MAt.l20 h1, MAt.g25 h1, MAt.n25 h1, MAt.r25 h1, MAt.l25 h1, MAt.g26 h1, MAt.n26 h1, MAt.r26 h1, MAt.l26 h1, MAt.g27 h1, MAt.n27 h1, MAt.r27 h1, MAt.l27 h1, MAt.g28 h1, MAt.n28 h1, MAt.r28 h1, MAt.l28 h1, obs, b2s, lA, lB, lM, nI_add, pk_mul]
  rw [u1]
  cases U with
  | nil =>
    rw [if_pos (show nI ([] : List St).length = 0 from rfl)]
    exact RW.ret h1 ⟨rfl, k1⟩
  | cons u V =>
    simp only [List.length_cons] at u1 u2 u3
    rw [List.length_cons, if_neg (nI_ne0 (by omega) (by omega)), nI_pred]
    refine RW.pF h1 fun M2 h2 => ?_
    have := rf_und (N := N) V.length (by omega) N 0 M2 _ _ h2 pk_us (by omega) (by omega)
    rw [nI_0] at this
    refine this.imp ?_
    rintro r F' A' ⟨rfl, rfl, S, rfl, q1, q2⟩
    refine ⟨rfl, k.chg (σ' := u) (U' := V) rfl ⟨pk_us, by omega, fun i hi => ?_⟩ ?_ rfl rfl rfl rfl rfl rfl rfl⟩
    · obtain ⟨v, v1, v2⟩ := u3 (i + 1) (by omega)
      refine ⟨v, by rw [List.getElem?_cons_succ] at v1; exact v1, v2.congr fun q hq => ?_⟩
      show A 17 _ = A 17 _
      congr 1
      omega
    · obtain ⟨v, v1, v2⟩ := u3 0 (by omega)
      rw [List.getElem?_cons_zero] at v1
      cases v1
      refine v2.congr fun q hq => ?_
      show S q = A 17 _
      rw [q1 q hq (by omega)]
      congr 1
theorem vp_nar1 : vp_nar .boolean 1 = 1 := rfl
theorem vp_nar0 : vp_nar .boolean 0 = 0 := rfl
/-- the snapshots after a save -/
def svS (sn : Nat → Option St) (σ : St) (x : Int32) : Nat → Option St := if 0 ≤ x ∧ x ≤ 1 then va_up sn x.toNatClampNeg (some σ) else sn
theorem x01 {x : Int32} (h : 0 ≤ x ∧ x ≤ 1) : x = nI 0 ∨ x = nI 1 := by
  obtain ⟨j, j1, j2⟩ := nI_of2 (x := x) (M := 1) (n := 1) rfl (Int32.not_lt.mpr h.1) h.2
  rcases (show j = 0 ∨ j = 1 by omega) with rfl | rfl
  · exact Or.inl j2
  · exact Or.inr j2
theorem rf_saveSnapshot (hN : 2 ^ 15 ≤ N) (h : MAt M F A) (k : Rel F A bf κ σ U sn) (x : Int32) : RW M (fn_X10_saveSnapshot N M 389 x) (fun r F' A' => r = (if 0 ≤ x ∧ x ≤ 1 then 1 else 0) ∧ Rel F' A' bf κ σ U (svS sn σ x)) := by
  unfold fn_X10_saveSnapshot svS
  refine RW.pF h fun M1 h1 => ?_
  have k1 : Rel (upd F 0 0) A bf κ σ U sn := k.qc Qt.u0
  rw [L0, L1, ev_within, b2s]
  by_cases g : 0 ≤ x ∧ x ≤ 1
  · rw [if_pos g, if_neg (by decide)]
    simp only [if_pos g]
    have main : ∀ j, j < 2 → RW M1 (fn_X10_saveSnapshot_19 N N M1 389 (nI j) 0) (fun r F' A' => r = 1 ∧ Rel F' A' bf κ σ U (va_up sn (nI j).toNatClampNeg (some σ))) := by
      intro j hj
      have := rf_sav (N := N) j hj N 0 M1 _ _ h1 (by omega) (by omega)
      rw [nI_0] at this
      refine this.imp ?_
      rintro r F' A' ⟨rfl, rfl, S, rfl, q1, q2⟩
      refine ⟨rfl, k1.1, k1.2.1, k1.2.2.1, k1.2.2.2.1, fun i hi => ?_⟩
      rw [nI_clamp (by omega)]
      by_cases he : i = j
      · subst he
        refine Or.inr ⟨?_, σ, ?_, k1.2.2.1.congr fun q hq => ?_⟩
        · show upd (A 20) i 1 i = 1
          rw [pk_us]
        · simp [va_up]
        · exact q1 q hq (by omega)
      · have e1 : va_up sn j (some σ) i = sn i := by simp [va_up, he]
        rw [e1]
        rcases k1.2.2.2.2 i hi with ⟨z1, z2⟩ | ⟨z1, t, z2, z3⟩
        · refine Or.inl ⟨?_, z2⟩
          show upd (A 20) j 1 i = 0
          rw [pk_un he]; exact z1
        · refine Or.inr ⟨?_, t, z2, z3.congr fun q hq => ?_⟩
          · show upd (A 20) j 1 i = 1
            rw [pk_un he]; exact z1
          · exact q2 _ (by omega)
    rcases x01 g with rfl | rfl
    · exact main 0 (by omega)
    · exact main 1 (by omega)
  · rw [if_neg g, if_pos rfl]
    simp only [if_neg g]
    exact RW.ret h1 ⟨rfl, k1⟩
/-- restore: the answer, the state, the undo list -/
def rsI (sn : Nat → Option St) (σ : St) (U : List St) (x : Int32) : Oc := if 0 ≤ x ∧ x ≤ 1 then (match sn x.toNatClampNeg with
  | some t => (1, t, [])
  | none => (0, σ, U)) else (0, σ, U)
theorem rsI_no {x : Int32} (g : ¬ (0 ≤ x ∧ x ≤ 1)) : rsI sn σ U x = (0, σ, U) := by unfold rsI; rw [if_neg g]
theorem rsI_none {x : Int32} (g : 0 ≤ x ∧ x ≤ 1) (e : sn x.toNatClampNeg = none) : rsI sn σ U x = (0, σ, U) := by unfold rsI; rw [if_pos g, e]
theorem rsI_some {x : Int32} {t : St} (g : 0 ≤ x ∧ x ≤ 1) (e : sn x.toNatClampNeg = some t) : rsI sn σ U x = (1, t, []) := by unfold rsI; rw [if_pos g, e]
theorem rf_restoreSnapshot (hN : 2 ^ 15 ≤ N) (h : MAt M F A) (k : Rel F A bf κ σ U sn) (x : Int32) : RO bf κ sn M (fn_X10_restoreSnapshot N M 389 x) (rsI sn σ U x) := by
  unfold RO fn_X10_restoreSnapshot
  refine RW.pF h fun M1 h1 => ?_
  have k1 : Rel (upd F 0 0) A bf κ σ U sn := k.qc Qt.u0
  rw [L0, L1, ev_within, b2s]
  by_cases g : 0 ≤ x ∧ x ≤ 1
  · rw [if_pos g, if_neg (by decide)]
    obtain ⟨j, hj, rfl⟩ : ∃ j, j < 2 ∧ x = nI j := by
      rcases x01 g with rfl | rfl
      · exact ⟨0, by omega, rfl⟩
      · exact ⟨1, by omega, rfl⟩
    have ec : (nI j).toNatClampNeg = j := nI_clamp (by omega)
    simp (disch := omega) only [MAt.ck h1, MAt.i0 h1, MAt.i2 h1, MAt.i3 h1, MAt.i4 h1, MAt.i5 h1, MAt.i6 h1, MAt.i7 h1, MAt.i8 h1, MAt.i9 h1, MAt.i15 h1, MAt.i18 h1, MAt.i21 h1, MAt.i22 h1, MAt.i23 h1, MAt.i24 h1, MAt.g1 h1, MAt.n1 h1, MAt.r1 h1, MAt.l1 h1, MAt.g10 h1, MAt.n10 h1, MAt.r10 h1, MAt.l10 h1, MAt.g11 h1, MAt.n11 h1, MAt.r11 h1, MAt.l11 h1, MAt.g12 h1, MAt.n12 h1, MAt.r12 h1, MAt.l12 h1, MAt.g13 h1, MAt.n13 h1, MAt.r13 h1, MAt.l13 h1, MAt.g14 h1, MAt.n14 h1, MAt.r14 h1, MAt.l14 h1, MAt.g16 h1, MAt.n16 h1, MAt.r16 h1, MAt.l16 h1, MAt.g17 h1, MAt.n17 h1, MAt.r17 h1, MAt.l17 h1, MAt.g19 h1, MAt.n19 h1, MAt.r19 h1, MAt.l19 h1, MAt.g20 h1, MAt.n20 h1, MAt.r20 h1, MAt.l20 h1, MAt.g25 h1, MAt.n25 h1, MAt.r25 h1, MAt.l25 h1, MAt.g26 h1, MAt.n26 h1, MAt.r26 h1, MAt.l26 h1, MAt.g27 h1, MAt.n27 h1, MAt.r27 h1, MAt.l27 h1, MAt.g28 h1, MAt.n28 h1, MAt.r28 h1, MAt.l28 h1, obs, b2s, lA, lB, lM, nI_add, pk_mul]
    rcases k.2.2.2.2 j hj with ⟨z1, z2⟩ | ⟨z1, t, z2, z3⟩
    · rw [z1, if_pos rfl, rsI_none g (by rw [ec]; exact z2)]
      exact RW.ret h1 ⟨rfl, k1⟩
    · rw [z1, if_neg (by decide), rsI_some g (by rw [ec]; exact z2)]
      have := rf_res (N := N) j hj N 0 M1 _ _ h1 (by omega) (by omega)
      rw [nI_0] at this
      refine this.imp ?_
      rintro r F' A' ⟨rfl, rfl, S, rfl, q1, q2⟩
      refine ⟨rfl, k.chg (σ' := t) (U' := []) rfl ⟨rfl, by simp, fun i hi => absurd hi (by simp)⟩ (z3.congr fun q hq => q1 q hq (by omega)) rfl rfl rfl rfl rfl rfl rfl⟩
  · rw [if_neg g, if_pos rfl, rsI_no g]
    exact RW.ret h1 ⟨rfl, k1⟩
end RC
section XN
variable {N : Nat} {M : Mem} {bf : List Int32} {κ : Cf} {σ : St} {U : List St} {sn : Nat → Option St}
theorem XAt.sl (h : XAt M bf κ σ U sn) : mm_gR M 0 9 7 = some 333 ∧ mm_gR M 0 9 8 = some 376 ∧ SlAt M sn := by
  obtain ⟨cf, sp, κ', h1, h2, h3, h4, h5, h6, h7, h8, h9⟩ := h
  exact ⟨ev_gR h1 rfl, ev_gR h1 rfl, h8⟩
theorem XAt.setSl {M' : Mem} {sn' : Nat → Option St} (h : XAt M bf κ σ U sn) (hs : SlAt M' sn') (hf : Fr M M' 333 377) : XAt M' bf κ σ U sn' := by
  obtain ⟨cf, sp, κ', h1, h2, h3, h4, h5, h6, h7, h8, h9⟩ := h
  exact ⟨cf, sp, κ', by rw [hf.2 0 (by omega)]; exact h1, h2, h3.keep hf (by omega), h4.keep hf (by omega), h5.keep hf (by omega), h6.keep hf (by omega), h7.keep hf (by omega), hs, h9.keep hf (by omega)⟩
theorem x_saveSnapshot (h : XAt M bf κ σ U sn) (x : Int32) : ∃ M', fn_X9_saveSnapshot N M 0 x = some (if 0 ≤ x ∧ x ≤ 1 then 1 else 0, M') ∧ XAt M' bf κ σ U (svS sn σ x) ∧ Fr M M' 0 389 := by
  unfold fn_X9_saveSnapshot svS
  by_cases g : 0 ≤ x ∧ x ≤ 1
  · rw [if_neg (Int32.not_lt.mpr g.1), if_pos (Int32.lt_iff_toInt_lt.mpr (by have := Int32.le_iff_toInt_le.mp g.2; rw [show (1 : Int32).toInt = 1 from rfl] at this; rw [show (2 : Int32).toInt = 2 from rfl]; omega)), if_pos g, if_pos g]
    obtain ⟨p1, p2, f, v, q1, q2, q3, q4, ⟨t, t1, t2⟩, ⟨u, u1, u2⟩⟩ := h.sl
    obtain ⟨s1, hS⟩ := h.st
    rcases x01 g with rfl | rfl
    · rw [p1, obs, ev_aR q1 (by omega) (by omega) q2, obs, s1, obs, t1.ck, obs]
      obtain ⟨M1, e1, g1, f1⟩ := st_copy (N := N) t1 hS (by omega)
      rw [e1, b2s]
      have k0 : mm_gR M1 0 9 8 = some 376 := by
        obtain ⟨cf, sp, κ', h1, h2⟩ := h
        exact ev_gR (by rw [f1.2 0 (by omega)]; exact h1) rfl
      have k1 : M1[376]? = some (.inl (3, 2, .inl v)) := by rw [f1.2 376 (by omega)]; exact q4
      rw [k0, obs, vp_nar1, ev_sI k1 (by omega) (by omega), obs]
      have f2 : Fr M1 (M1.set 376 (.inl (3, 2, .inl (upd v 0 1)))) 376 377 := Fr.set (by omega) (by omega)
      have f3 : Fr M (M1.set 376 (.inl (3, 2, .inl (upd v 0 1)))) 333 377 := (f1.mono (by omega) (by omega)).tr (f2.mono (by omega) (by omega))
      refine ⟨_, rfl, h.setSl ⟨f, upd v 0 1, by rw [f2.2 333 (by omega), f1.2 333 (by omega)]; exact q1, q2, q3, st_self k1, ⟨σ, g1.keep f2 (by omega), Or.inr ⟨pk_us, by rw [nI_clamp (by omega)]; simp [va_up]⟩⟩, ⟨u, (u1.keep f1 (by omega)).keep f2 (by omega), ?_⟩⟩ f3, f3.mono (by omega) (by omega)⟩
      rw [pk_un (by omega), nI_clamp (by omega), show va_up sn 0 (some σ) 1 = sn 1 by simp [va_up]]
      exact u2
    · rw [p1, obs, ev_aR q1 (by omega) (by omega) q3, obs, s1, obs, u1.ck, obs]
      obtain ⟨M1, e1, g1, f1⟩ := st_copy (N := N) u1 hS (by omega)
      rw [e1, b2s]
      have k0 : mm_gR M1 0 9 8 = some 376 := by
        obtain ⟨cf, sp, κ', h1, h2⟩ := h
        exact ev_gR (by rw [f1.2 0 (by omega)]; exact h1) rfl
      have k1 : M1[376]? = some (.inl (3, 2, .inl v)) := by rw [f1.2 376 (by omega)]; exact q4
      rw [k0, obs, vp_nar1, ev_sI k1 (by omega) (by omega), obs]
      have f2 : Fr M1 (M1.set 376 (.inl (3, 2, .inl (upd v 1 1)))) 376 377 := Fr.set (by omega) (by omega)
      have f3 : Fr M (M1.set 376 (.inl (3, 2, .inl (upd v 1 1)))) 333 377 := (f1.mono (by omega) (by omega)).tr (f2.mono (by omega) (by omega))
      refine ⟨_, rfl, h.setSl ⟨f, upd v 1 1, by rw [f2.2 333 (by omega), f1.2 333 (by omega)]; exact q1, q2, q3, st_self k1, ⟨t, (t1.keep f1 (by omega)).keep f2 (by omega), ?_⟩, ⟨σ, g1.keep f2 (by omega), Or.inr ⟨pk_us, by rw [nI_clamp (by omega)]; simp [va_up]⟩⟩⟩ f3, f3.mono (by omega) (by omega)⟩
      rw [pk_un (by omega), nI_clamp (by omega), show va_up sn 1 (some σ) 0 = sn 0 by simp [va_up]]
      exact t2
  · rw [if_neg g, if_neg g]
    by_cases g1 : x < 0
    · rw [if_pos g1]
      exact ⟨M, rfl, h, Fr.rf⟩
    · rw [if_neg g1, if_neg]
      · exact ⟨M, rfl, h, Fr.rf⟩
      · intro q
        refine g ⟨Int32.not_lt.mp g1, Int32.le_iff_toInt_le.mpr ?_⟩
        have := Int32.lt_iff_toInt_lt.mp q
        rw [show (2 : Int32).toInt = 2 from rfl] at this
        rw [show (1 : Int32).toInt = 1 from rfl]
        omega
theorem x_restoreSnapshot (h : XAt M bf κ σ U sn) (x : Int32) : XO bf κ sn M (fn_X9_restoreSnapshot N M 0 x) (rsI sn σ U x) := by
  unfold fn_X9_restoreSnapshot
  by_cases g : 0 ≤ x ∧ x ≤ 1
  · rw [if_neg (Int32.not_lt.mpr g.1), if_neg (Int32.not_le.mpr (Int32.lt_iff_toInt_lt.mpr (by have := Int32.le_iff_toInt_le.mp g.2; rw [show (1 : Int32).toInt = 1 from rfl] at this; rw [show (2 : Int32).toInt = 2 from rfl]; omega)))]
    obtain ⟨p1, p2, f, v, q1, q2, q3, q4, ⟨t, t1, t2⟩, ⟨u, u1, u2⟩⟩ := h.sl
    obtain ⟨s1, hS⟩ := h.st
    have fin : ∀ (a : Nat) (w : St), 333 ≤ a → StAt M a w → (mm_ck M 58 7).bind (fun _ => mm_b2 (fn_X7_copyFrom N M 58 a) fun _ M6 => (mm_gR M6 0 9 6).bind fun b7 => (mm_ck M6 b7 1).bind fun _ => mm_b2 (fn_X1_forget N M6 b7) fun _ M8 => some ((1 : Int32), M8)) = (mm_ck M 58 7).bind (fun _ => mm_b2 (fn_X7_copyFrom N M 58 a) fun _ M6 => (mm_gR M6 0 9 6).bind fun b7 => (mm_ck M6 b7 1).bind fun _ => mm_b2 (fn_X1_forget N M6 b7) fun _ M8 => some ((1 : Int32), M8)) ∧ XO bf κ sn M ((mm_ck M 58 7).bind (fun _ => mm_b2 (fn_X7_copyFrom N M 58 a) fun _ M6 => (mm_gR M6 0 9 6).bind fun b7 => (mm_ck M6 b7 1).bind fun _ => mm_b2 (fn_X1_forget N M6 b7) fun _ M8 => some ((1 : Int32), M8))) (1, w, []) := by
      intro a w ha hw
      refine ⟨rfl, ?_⟩
      rw [hS.ck, obs]
      obtain ⟨M1, e1, g1, f1⟩ := st_copy (N := N) hS hw (by omega)
      rw [e1, b2s]
      have hX := h.setSt g1 (f1.mono (by omega) (by omega))
      obtain ⟨i1, iH⟩ := hX.hi
      obtain ⟨M2, e2, g2, f2⟩ := hi_forget (N := N) iH
      rw [i1, obs, iH.ck, obs, e2, b2s]
      exact ⟨M2, rfl, hX.setHi g2 f2, (f1.mono (by omega) (by omega)).tr (f2.mono (by omega) (by omega))⟩
    rcases x01 g with rfl | rfl
    · rw [p2, obs, ev_aI q4 (by omega) (by omega), obs]
      rcases t2 with ⟨z1, z2⟩ | ⟨z1, z2⟩
      · rw [z1, if_pos rfl, rsI_none g (by rw [nI_clamp (by omega)]; exact z2)]
        exact XO.ret h rfl
      · rw [z1, if_neg (by decide), rsI_some g (by rw [nI_clamp (by omega)]; exact z2), s1, obs, p1, obs, ev_aR q1 (by omega) (by omega) q2, obs]
        exact (fin 334 t (by omega) t1).2
    · rw [p2, obs, ev_aI q4 (by omega) (by omega), obs]
      rcases u2 with ⟨z1, z2⟩ | ⟨z1, z2⟩
      · rw [z1, if_pos rfl, rsI_none g (by rw [nI_clamp (by omega)]; exact z2)]
        exact XO.ret h rfl
      · rw [z1, if_neg (by decide), rsI_some g (by rw [nI_clamp (by omega)]; exact z2), s1, obs, p1, obs, ev_aR q1 (by omega) (by omega) q3, obs]
        exact (fin 355 u (by omega) u1).2
  · rw [rsI_no g]
    by_cases g1 : x < 0
    · rw [if_pos g1]
      exact XO.ret h rfl
    · rw [if_neg g1, if_pos]
      · exact XO.ret h rfl
      · apply Int32.le_iff_toInt_le.mpr
        rw [show (2 : Int32).toInt = 2 from rfl]
        have h1 : ¬ x.toInt ≤ 1 := fun q => g ⟨Int32.not_lt.mp g1, Int32.le_iff_toInt_le.mpr q⟩
        omega
end XN
