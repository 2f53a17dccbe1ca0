/-! PURE: the reference's classification -/
theorem rf_dev {N : Nat} {M : Mem} {x nom tol : Int32} (h : 1 ≤ tol) : fn_X10_deviation N M x nom tol = some (devI x nom tol, M) := by
  unfold fn_X10_deviation devI
  have h0 : ¬ tol = 0 := by rintro rfl; exact absurd h (by decide)
  rw [if_pos h]
  by_cases h1 : nom ≤ x
  · rw [if_pos h1, if_pos h1]
    unfold fn_X10_deviation_14 mm_dI
    rw [if_neg h0, Option.bind_some]
  · rw [if_neg h1, if_neg h1]
    unfold fn_X10_deviation_14 mm_dI
    rw [if_neg h0, Option.bind_some]
theorem Ng.ge1 {hi : Nat} {x : Int32} (h : Ng 1 hi x) (hh : hi < 2 ^ 31) : 1 ≤ x := by
  obtain ⟨n, h1, h2, rfl⟩ := h
  exact nI_le (a := 1) h1 (by omega)
theorem sc_end {d a : Int32} {M : Mem} : (if 1000 < d then some ((1000000 : Int32), M) else if 1000 < a then some (1000000, M) else some (d + a, M)) = some (if 1000 < d then 1000000 else if a ≤ 1000 then d + a else 1000000, M) := by
  by_cases h1 : 1000 < d
  · rw [if_pos h1, if_pos h1]
  · rw [if_neg h1, if_neg h1]
    by_cases h2 : 1000 < a
    · rw [if_pos h2, if_neg (Int32.not_le.mpr h2)]
    · rw [if_neg h2, if_pos (Int32.not_lt.mp h2)]
section RV
variable {N : Nat} {M : Mem} {F : Nat → Int32} {A : Nat → Nat → Int32} {bf : List Int32} {κ : Cf} {σ : St} {U : List St} {sn : Nat → Option St}
theorem rf_scT (h : MAt M F A) (k : RelK (A 10) (A 12) (A 13) (A 14) κ) (w : WFK κ) (s : RelS (A 16) σ) {i : Nat} (hi : i < (κ.2 0).length) (d a : Int32) : fn_X10_scoreFor N M 389 (nI i) d a = some (scI κ 0 (nI i) (d + σ.1 0) (a + σ.1 1), M) := by
  have hb := w.1.1
  have hr := w.1.2.1
  have e1 := hr 1 (by omega)
  have e2 := hr 2 (by omega)
  have e3 := hr 3 (by omega)
  have e4 := hr 4 (by omega)
  have v1 := k.2.1 i hi 1 (by omega)
  have v2 := k.2.1 i hi 2 (by omega)
  have v3 := k.2.1 i hi 3 (by omega)
  have v4 := k.2.1 i hi 4 (by omega)
  obtain ⟨-, -, q2, -, q4⟩ := w.2.1 i hi
  have p2 := q2.ge1 (by omega)
  have p4 := q4.ge1 (by omega)
  unfold fn_X10_scoreFor scI
  simp (disch := omega) only [MAt.ck h, MAt.i0 h, MAt.i2 h, MAt.i3 h, MAt.i4 h, MAt.i5 h, MAt.i6 h, MAt.i7 h, MAt.i8 h, MAt.i9 h, MAt.i15 h, MAt.i18 h, MAt.i21 h, MAt.i22 h, MAt.i23 h, MAt.i24 h, MAt.g1 h, MAt.n1 h, MAt.r1 h, MAt.l1 h, MAt.g10 h, MAt.n10 h, MAt.r10 h, MAt.l10 h, MAt.g11 h, MAt.n11 h, MAt.r11 h, MAt.l11 h, MAt.g12 h, MAt.n12 h, MAt.r12 h, MAt.l12 h, MAt.g13 h, MAt.n13 h, MAt.r13 h, MAt.l13 h, MAt.g14 h, MAt.n14 h, MAt.r14 h, MAt.l14 h, MAt.g16 h, MAt.n16 h, MAt.r16 h, MAt.l16 h, MAt.g17 h, MAt.n17 h, MAt.r17 h, MAt.l17 h, MAt.g19 h, MAt.n19 h, MAt.r19 h, MAt.l19 h, MAt.g20 h, MAt.n20 h, MAt.r20 h, MAt.l20 h, MAt.g25 h, MAt.n25 h, MAt.r25 h, MAt.l25 h, MAt.g26 h, MAt.n26 h, MAt.r26 h, MAt.l26 h, MAt.g27 h, MAt.n27 h, MAt.r27 h, MAt.l27 h, MAt.g28 h, MAt.n28 h, MAt.r28 h, MAt.l28 h, obs, b2s, lA, lB, lM, nI_add, pk_mul]
  simp only [Nat.zero_add, show 5 * i + 1 + 1 = 5 * i + 2 by omega, show 5 * i + 3 + 1 = 5 * i + 4 by omega, v1, v2, v3, v4, s.1.1.1, s.1.1.2.1]
  rw [rf_dev p2, b2s]
  simp (disch := omega) only [MAt.ck h, MAt.i0 h, MAt.i2 h, MAt.i3 h, MAt.i4 h, MAt.i5 h, MAt.i6 h, MAt.i7 h, MAt.i8 h, MAt.i9 h, MAt.i15 h, MAt.i18 h, MAt.i21 h, MAt.i22 h, MAt.i23 h, MAt.i24 h, MAt.g1 h, MAt.n1 h, MAt.r1 h, MAt.l1 h, MAt.g10 h, MAt.n10 h, MAt.r10 h, MAt.l10 h, MAt.g11 h, MAt.n11 h, MAt.r11 h, MAt.l11 h, MAt.g12 h, MAt.n12 h, MAt.r12 h, MAt.l12 h, MAt.g13 h, MAt.n13 h, MAt.r13 h, MAt.l13 h, MAt.g14 h, MAt.n14 h, MAt.r14 h, MAt.l14 h, MAt.g16 h, MAt.n16 h, MAt.r16 h, MAt.l16 h, MAt.g17 h, MAt.n17 h, MAt.r17 h, MAt.l17 h, MAt.g19 h, MAt.n19 h, MAt.r19 h, MAt.l19 h, MAt.g20 h, MAt.n20 h, MAt.r20 h, MAt.l20 h, MAt.g25 h, MAt.n25 h, MAt.r25 h, MAt.l25 h, MAt.g26 h, MAt.n26 h, MAt.r26 h, MAt.l26 h, MAt.g27 h, MAt.n27 h, MAt.r27 h, MAt.l27 h, MAt.g28 h, MAt.n28 h, MAt.r28 h, MAt.l28 h, obs, b2s, lA, lB, lM, nI_add, pk_mul]
  simp only [show 5 * i + 1 + 1 = 5 * i + 2 by omega, show 5 * i + 3 + 1 = 5 * i + 4 by omega, v1, v2, v3, v4, s.1.1.1, s.1.1.2.1]
  rw [rf_dev p4, b2s, sc_end, atI_nI (by omega) (by omega), atI_nI (by omega) (by omega), atI_nI (by omega) (by omega), atI_nI (by omega) (by omega)]
theorem rf_scF (h : MAt M F A) (k : RelK (A 10) (A 12) (A 13) (A 14) κ) (w : WFK κ) (s : RelS (A 16) σ) {i : Nat} (hi : i < (κ.2 5).length) (d a : Int32) : fn_X10_scoreFor N M 389 (nI (8 + i)) d a = some (scI κ 5 (nI i) (d + σ.1 0) (a + σ.1 1), M) := by
  have hb := w.1.2.2.1
  have hr := w.1.2.2.2.1
  have e1 := hr 1 (by omega)
  have e2 := hr 2 (by omega)
  have e3 := hr 3 (by omega)
  have e4 := hr 4 (by omega)
  have v1 := k.2.2.1 i hi 1 (by omega)
  have v2 := k.2.2.1 i hi 2 (by omega)
  have v3 := k.2.2.1 i hi 3 (by omega)
  have v4 := k.2.2.1 i hi 4 (by omega)
  obtain ⟨-, q2, -, q4⟩ := w.2.2.1 i hi
  have p2 := q2.ge1 (by omega)
  have p4 := q4.ge1 (by omega)
  unfold fn_X10_scoreFor scI
  simp (disch := omega) only [MAt.ck h, MAt.i0 h, MAt.i2 h, MAt.i3 h, MAt.i4 h, MAt.i5 h, MAt.i6 h, MAt.i7 h, MAt.i8 h, MAt.i9 h, MAt.i15 h, MAt.i18 h, MAt.i21 h, MAt.i22 h, MAt.i23 h, MAt.i24 h, MAt.g1 h, MAt.n1 h, MAt.r1 h, MAt.l1 h, MAt.g10 h, MAt.n10 h, MAt.r10 h, MAt.l10 h, MAt.g11 h, MAt.n11 h, MAt.r11 h, MAt.l11 h, MAt.g12 h, MAt.n12 h, MAt.r12 h, MAt.l12 h, MAt.g13 h, MAt.n13 h, MAt.r13 h, MAt.l13 h, MAt.g14 h, MAt.n14 h, MAt.r14 h, MAt.l14 h, MAt.g16 h, MAt.n16 h, MAt.r16 h, MAt.l16 h, MAt.g17 h, MAt.n17 h, MAt.r17 h, MAt.l17 h, MAt.g19 h, MAt.n19 h, MAt.r19 h, MAt.l19 h, MAt.g20 h, MAt.n20 h, MAt.r20 h, MAt.l20 h, MAt.g25 h, MAt.n25 h, MAt.r25 h, MAt.l25 h, MAt.g26 h, MAt.n26 h, MAt.r26 h, MAt.l26 h, MAt.g27 h, MAt.n27 h, MAt.r27 h, MAt.l27 h, MAt.g28 h, MAt.n28 h, MAt.r28 h, MAt.l28 h, obs, b2s, lA, lB, lM, nI_add, pk_mul]
  simp only [show 5 * (8 + i) + 1 + 1 = 5 * (8 + i) + 2 by omega, show 5 * (8 + i) + 3 + 1 = 5 * (8 + i) + 4 by omega, v1, v2, v3, v4, s.1.1.1, s.1.1.2.1]
  rw [rf_dev p2, b2s]
  simp (disch := omega) only [MAt.ck h, MAt.i0 h, MAt.i2 h, MAt.i3 h, MAt.i4 h, MAt.i5 h, MAt.i6 h, MAt.i7 h, MAt.i8 h, MAt.i9 h, MAt.i15 h, MAt.i18 h, MAt.i21 h, MAt.i22 h, MAt.i23 h, MAt.i24 h, MAt.g1 h, MAt.n1 h, MAt.r1 h, MAt.l1 h, MAt.g10 h, MAt.n10 h, MAt.r10 h, MAt.l10 h, MAt.g11 h, MAt.n11 h, MAt.r11 h, MAt.l11 h, MAt.g12 h, MAt.n12 h, MAt.r12 h, MAt.l12 h, MAt.g13 h, MAt.n13 h, MAt.r13 h, MAt.l13 h, MAt.g14 h, MAt.n14 h, MAt.r14 h, MAt.l14 h, MAt.g16 h, MAt.n16 h, MAt.r16 h, MAt.l16 h, MAt.g17 h, MAt.n17 h, MAt.r17 h, MAt.l17 h, MAt.g19 h, MAt.n19 h, MAt.r19 h, MAt.l19 h, MAt.g20 h, MAt.n20 h, MAt.r20 h, MAt.l20 h, MAt.g25 h, MAt.n25 h, MAt.r25 h, MAt.l25 h, MAt.g26 h, MAt.n26 h, MAt.r26 h, MAt.l26 h, MAt.g27 h, MAt.n27 h, MAt.r27 h, MAt.l27 h, MAt.g28 h, MAt.n28 h, MAt.r28 h, MAt.l28 h, obs, b2s, lA, lB, lM, nI_add, pk_mul]
  simp only [show 5 * (8 + i) + 1 + 1 = 5 * (8 + i) + 2 by omega, show 5 * (8 + i) + 3 + 1 = 5 * (8 + i) + 4 by omega, v1, v2, v3, v4, s.1.1.1, s.1.1.2.1]
  rw [rf_dev p4, b2s, sc_end, atI_nI (by omega) (by omega), atI_nI (by omega) (by omega), atI_nI (by omega) (by omega), atI_nI (by omega) (by omega)]
/-- what a look leaves: only the four numbers -/
def LkQ (F : Nat → Int32) (A : Nat → Nat → Int32) (κ : Cf) (d a : Int32) (F' : Nat → Int32) (A' : Nat → Nat → Int32) : Prop := A' = A ∧ F' 0 = F 0 ∧ F' 2 = F 2 ∧ F' 18 = F 18 ∧ F' 21 = (exT κ d a (-2) (κ.2 0).length).1 ∧ F' 22 = (exT κ d a (-2) (κ.2 0).length).2.1 ∧ F' 23 = (exT κ d a (-2) (κ.2 0).length).2.2 ∧ F' 24 = exF κ d a (κ.2 5).length
theorem rf_look2 (k : RelK (A 10) (A 12) (A 13) (A 14) κ) (w : WFK κ) (s : RelS (A 16) σ) (d a : Int32) : ∀ (m i : Nat) (M : Mem) (F : Nat → Int32), MAt M F A → i ≤ (κ.2 5).length → (κ.2 5).length - i < m → F 24 = exF κ (d + σ.1 0) (a + σ.1 1) i →
    RW M (fn_X10_look_99 N m M 389 d a (nI i)) (fun _ F' A' => A' = A ∧ F' 0 = F 0 ∧ F' 2 = F 2 ∧ F' 18 = F 18 ∧ F' 21 = F 21 ∧ F' 22 = F 22 ∧ F' 23 = F 23 ∧ F' 24 = exF κ (d + σ.1 0) (a + σ.1 1) (κ.2 5).length) := by
  have hb := w.1.2.2.1
  intro m
  induction m with
  | zero => intro i M F _ _ h; omega
  | succ m ih =>
    intro i M F h hi hm h24
    rw [fn_X10_look_99.eq_2]
    simp (disch := omega) only [MAt.ck h, MAt.i0 h, MAt.i2 h, MAt.i3 h, MAt.i4 h, MAt.i5 h, MAt.i6 h, MAt.i7 h, MAt.i8 h, MAt.i9 h, MAt.i15 h, MAt.i18 h, MAt.i21 h, MAt.i22 h, MAt.i23 h, MAt.i24 h, MAt.g1 h, MAt.n1 h, MAt.r1 h, MAt.l1 h, MAt.g10 h, MAt.n10 h, MAt.r10 h, MAt.l10 h, MAt.g11 h, MAt.n11 h, MAt.r11 h, MAt.l11 h, MAt.g12 h, MAt.n12 h, MAt.r12 h, MAt.l12 h, MAt.g13 h, MAt.n13 h, MAt.r13 h, MAt.l13 h, MAt.g14 h, MAt.n14 h, MAt.r14 h, MAt.l14 h, MAt.g16 h, MAt.n16 h, MAt.r16 h, MAt.l16 h, MAt.g17 h, MAt.n17 h, MAt.r17 h, MAt.l17 h, MAt.g19 h, MAt.n19 h, MAt.r19 h, MAt.l19 h, MAt.g20 h, MAt.n20 h, MAt.r20 h, MAt.l20 h, MAt.g25 h, MAt.n25 h, MAt.r25 h, MAt.l25 h, MAt.g26 h, MAt.n26 h, MAt.r26 h, MAt.l26 h, MAt.g27 h, MAt.n27 h, MAt.r27 h, MAt.l27 h, MAt.g28 h, MAt.n28 h, MAt.r28 h, MAt.l28 h, obs, b2s, lA, lB, lM, nI_add, pk_mul]
    rw [k.1.2.1]
    by_cases he : i = (κ.2 5).length
    · subst he
      rw [if_pos (Int32.le_refl _)]
      exact RW.ret h ⟨rfl, rfl, rfl, rfl, rfl, rfl, rfl, h24⟩
    · rw [if_neg (nI_ge (by omega) (by omega)), rf_scF h k w s (i := i) (by omega), b2s]
      unfold mm_lt
      refine RW.pF h fun M1 h1 => ?_
      refine (ih (i + 1) M1 _ h1 (by omega) (by omega) ?_).imp ?_
      · rw [pk_us, exF, h24]
      · rintro r F' A' ⟨q1, q2, q3, q4, q5, q6, q7, q8⟩
        exact ⟨q1, q2, q3, q4, q5, q6, q7, q8⟩
theorem rf_look1 (hN : 2 ^ 15 ≤ N) (k : RelK (A 10) (A 12) (A 13) (A 14) κ) (w : WFK κ) (s : RelS (A 16) σ) (d a : Int32) : ∀ (m i : Nat) (M : Mem) (F : Nat → Int32), MAt M F A → i ≤ (κ.2 0).length → (κ.2 0).length - i < m → F 24 = 1000000 → F 21 = (exT κ (d + σ.1 0) (a + σ.1 1) (-2) i).1 → F 22 = (exT κ (d + σ.1 0) (a + σ.1 1) (-2) i).2.1 → F 23 = (exT κ (d + σ.1 0) (a + σ.1 1) (-2) i).2.2 →
    RW M (fn_X10_look_26 N m M 389 d a (nI i)) (fun _ F' A' => LkQ F A κ (d + σ.1 0) (a + σ.1 1) F' A') := by
  have hb := w.1.1
  have hb2 := w.1.2.2.1
  intro m
  induction m with
  | zero => intro i M F _ _ h; omega
  | succ m ih =>
    intro i M F h hi hm h24 h21 h22 h23
    rw [fn_X10_look_26.eq_2]
    simp (disch := omega) only [MAt.ck h, MAt.i0 h, MAt.i2 h, MAt.i3 h, MAt.i4 h, MAt.i5 h, MAt.i6 h, MAt.i7 h, MAt.i8 h, MAt.i9 h, MAt.i15 h, MAt.i18 h, MAt.i21 h, MAt.i22 h, MAt.i23 h, MAt.i24 h, MAt.g1 h, MAt.n1 h, MAt.r1 h, MAt.l1 h, MAt.g10 h, MAt.n10 h, MAt.r10 h, MAt.l10 h, MAt.g11 h, MAt.n11 h, MAt.r11 h, MAt.l11 h, MAt.g12 h, MAt.n12 h, MAt.r12 h, MAt.l12 h, MAt.g13 h, MAt.n13 h, MAt.r13 h, MAt.l13 h, MAt.g14 h, MAt.n14 h, MAt.r14 h, MAt.l14 h, MAt.g16 h, MAt.n16 h, MAt.r16 h, MAt.l16 h, MAt.g17 h, MAt.n17 h, MAt.r17 h, MAt.l17 h, MAt.g19 h, MAt.n19 h, MAt.r19 h, MAt.l19 h, MAt.g20 h, MAt.n20 h, MAt.r20 h, MAt.l20 h, MAt.g25 h, MAt.n25 h, MAt.r25 h, MAt.l25 h, MAt.g26 h, MAt.n26 h, MAt.r26 h, MAt.l26 h, MAt.g27 h, MAt.n27 h, MAt.r27 h, MAt.l27 h, MAt.g28 h, MAt.n28 h, MAt.r28 h, MAt.l28 h, obs, b2s, lA, lB, lM, nI_add, pk_mul]
    rw [k.1.1]
    by_cases he : i = (κ.2 0).length
    · subst he
      rw [if_pos (Int32.le_refl _)]
      have := rf_look2 (N := N) k w s d a N 0 M F h (by omega) (by omega) h24
      rw [nI_0] at this
      refine this.imp ?_
      rintro r F' A' ⟨q1, q2, q3, q4, q5, q6, q7, q8⟩
      exact ⟨q1, q2, q3, q4, q5.trans h21, q6.trans h22, q7.trans h23, q8⟩
    · rw [if_neg (nI_ge (by omega) (by omega)), rf_scT h k w s (i := i) (by omega), b2s]
      simp (disch := omega) only [MAt.ck h, MAt.i0 h, MAt.i2 h, MAt.i3 h, MAt.i4 h, MAt.i5 h, MAt.i6 h, MAt.i7 h, MAt.i8 h, MAt.i9 h, MAt.i15 h, MAt.i18 h, MAt.i21 h, MAt.i22 h, MAt.i23 h, MAt.i24 h, MAt.g1 h, MAt.n1 h, MAt.r1 h, MAt.l1 h, MAt.g10 h, MAt.n10 h, MAt.r10 h, MAt.l10 h, MAt.g11 h, MAt.n11 h, MAt.r11 h, MAt.l11 h, MAt.g12 h, MAt.n12 h, MAt.r12 h, MAt.l12 h, MAt.g13 h, MAt.n13 h, MAt.r13 h, MAt.l13 h, MAt.g14 h, MAt.n14 h, MAt.r14 h, MAt.l14 h, MAt.g16 h, MAt.n16 h, MAt.r16 h, MAt.l16 h, MAt.g17 h, MAt.n17 h, MAt.r17 h, MAt.l17 h, MAt.g19 h, MAt.n19 h, MAt.r19 h, MAt.l19 h, MAt.g20 h, MAt.n20 h, MAt.r20 h, MAt.l20 h, MAt.g25 h, MAt.n25 h, MAt.r25 h, MAt.l25 h, MAt.g26 h, MAt.n26 h, MAt.r26 h, MAt.l26 h, MAt.g27 h, MAt.n27 h, MAt.r27 h, MAt.l27 h, MAt.g28 h, MAt.n28 h, MAt.r28 h, MAt.l28 h, obs, b2s, lA, lB, lM, nI_add, pk_mul]
      simp only [fn_X10_look_91]
      rw [nI_1, h22, h23]
      have hx : exT κ (d + σ.1 0) (a + σ.1 1) (-2) (i + 1) = if (exT κ (d + σ.1 0) (a + σ.1 1) (-2) i).2.1 ≤ scI κ 0 (nI i) (d + σ.1 0) (a + σ.1 1) then (if (exT κ (d + σ.1 0) (a + σ.1 1) (-2) i).2.2 ≤ scI κ 0 (nI i) (d + σ.1 0) (a + σ.1 1) then exT κ (d + σ.1 0) (a + σ.1 1) (-2) i else ((exT κ (d + σ.1 0) (a + σ.1 1) (-2) i).1, (exT κ (d + σ.1 0) (a + σ.1 1) (-2) i).2.1, scI κ 0 (nI i) (d + σ.1 0) (a + σ.1 1))) else (nI i, scI κ 0 (nI i) (d + σ.1 0) (a + σ.1 1), (exT κ (d + σ.1 0) (a + σ.1 1) (-2) i).2.1) := rfl
      generalize scI κ 0 (nI i) (d + σ.1 0) (a + σ.1 1) = sc at hx
      by_cases g1 : (exT κ (d + σ.1 0) (a + σ.1 1) (-2) i).2.1 ≤ sc
      · rw [if_pos g1] at hx ⊢
        by_cases g2 : (exT κ (d + σ.1 0) (a + σ.1 1) (-2) i).2.2 ≤ sc
        · rw [if_pos g2] at hx ⊢
          exact ih (i + 1) M F h (by omega) (by omega) h24 (by rw [hx]; exact h21) (by rw [hx]; exact h22) (by rw [hx]; exact h23)
        · rw [if_neg g2] at hx ⊢
          refine RW.pF h fun M1 h1 => ?_
          exact (ih (i + 1) M1 _ h1 (by omega) (by omega) h24 (by rw [hx]; exact h21) (by rw [hx]; exact h22) (by rw [hx]; rfl)).imp (fun r F' A' q => q)
      · rw [if_neg g1] at hx ⊢
        refine RW.pF h fun M1 h1 => RW.pF h1 fun M2 h2 => RW.pF h2 fun M3 h3 => ?_
        exact (ih (i + 1) M3 _ h3 (by omega) (by omega) h24 (by rw [hx]; rfl) (by rw [hx]; rfl) (by rw [hx]; rfl)).imp (fun r F' A' q => q)
theorem rf_look (hN : 2 ^ 15 ≤ N) (h : MAt M F A) (k : RelK (A 10) (A 12) (A 13) (A 14) κ) (w : WFK κ) (s : RelS (A 16) σ) (d a : Int32) : RW M (fn_X10_look N M 389 d a) (fun _ F' A' => LkQ F A κ (d + σ.1 0) (a + σ.1 1) F' A') := by
  unfold fn_X10_look
  have hb := w.1.1
  refine RW.pF h fun M1 h1 => RW.pF h1 fun M2 h2 => RW.pF h2 fun M3 h3 => RW.pF h3 fun M4 h4 => ?_
  have := rf_look1 (N := N) hN k w s d a N 0 M4 _ h4 (by omega) (by omega) rfl rfl rfl rfl
  rw [nI_0] at this
  exact this
theorem i32_lt_irr {a : Int32} (h : a < a) : False := by
  have := Int32.lt_iff_toInt_lt.mp h
  omega
theorem i32_le_of_lt {a b : Int32} (h : a < b) : a ≤ b := Int32.le_iff_toInt_le.mpr (by have := Int32.lt_iff_toInt_lt.mp h; omega)
theorem i32_tr {a b c : Int32} (h : a ≤ b) (g : b ≤ c) : a ≤ c := Int32.le_iff_toInt_le.mpr (by have := Int32.le_iff_toInt_le.mp h; have := Int32.le_iff_toInt_le.mp g; omega)
theorem i32_as {a b : Int32} (h : a ≤ b) (g : b ≤ a) : a = b := Int32.toInt_inj.mp (by have := Int32.le_iff_toInt_le.mp h; have := Int32.le_iff_toInt_le.mp g; omega)
theorem i32_ltn {a b : Int32} (h : a ≤ b) (g : ¬ a = b) : a < b := by
  apply Int32.not_le.mp
  intro q
  exact g (i32_as h q)
theorem ex_fact (κ : Cf) (d a : Int32) (n : Nat) : (exT κ d a 23 n).2 = (exT κ d a (-2) n).2 ∧ (exT κ d a (-2) n).2.1 ≤ 1000000 ∧ (exT κ d a (-2) n).2.2 ≤ 1000000 ∧ ((exT κ d a (-2) n).2.1 = 1000000 → (exT κ d a 23 n).1 = 23 ∧ (exT κ d a (-2) n).2.2 = 1000000) ∧ (¬ (exT κ d a (-2) n).2.1 = 1000000 → (exT κ d a 23 n).1 = (exT κ d a (-2) n).1) := by
  induction n with
  | zero => exact ⟨rfl, Int32.le_refl _, Int32.le_refl _, fun _ => ⟨rfl, rfl⟩, fun h => absurd rfl h⟩
  | succ n ih =>
    obtain ⟨h1, h2, h3, h4, h5⟩ := ih
    rw [exT, exT, h1]
    generalize exT κ d a 23 n = p at *
    generalize exT κ d a (-2) n = q at *
    generalize scI κ 0 (nI n) d a = sc at *
    by_cases g1 : q.2.1 ≤ sc
    · rw [if_pos g1, if_pos g1]
      by_cases g2 : q.2.2 ≤ sc
      · rw [if_pos g2, if_pos g2]
        exact ⟨h1, h2, h3, h4, h5⟩
      · rw [if_neg g2, if_neg g2]
        have g3 := Int32.not_le.mp g2
        refine ⟨rfl, h2, i32_tr (i32_le_of_lt g3) h3, fun e => ?_, h5⟩
        exfalso
        have e' : q.2.1 = 1000000 := e
        rw [(h4 e').2, ← e'] at g2
        exact g2 g1
    · rw [if_neg g1, if_neg g1]
      have g3 := Int32.not_le.mp g1
      refine ⟨rfl, i32_tr (i32_le_of_lt g3) h2, h2, fun e => ?_, fun _ => rfl⟩
      exfalso
      have e' : sc = 1000000 := e
      rw [e'] at g1
      exact g1 h2
theorem exF_le (κ : Cf) (d a : Int32) (n : Nat) : exF κ d a n ≤ 1000000 := by
  induction n with
  | zero => exact Int32.le_refl _
  | succ n ih =>
    rw [exF]
    split
    · rename_i g
      exact i32_tr (i32_le_of_lt g) ih
    · exact ih
/-- the verdict as the reference finds it -/
theorem rf_verdict (hN : 2 ^ 15 ≤ N) (h : MAt M F A) (k : RelK (A 10) (A 12) (A 13) (A 14) κ) (w : WFK κ) (s : RelS (A 16) σ) (d a m : Int32) (hm : Ng 0 2000 m) : RW M (fn_X10_verdict N M 389 d a m) (fun r F' A' => r = vdI κ (d + σ.1 0) (a + σ.1 1) m ∧ LkQ F A κ (d + σ.1 0) (a + σ.1 1) F' A') := by
  unfold fn_X10_verdict
  rw [h.ck, Option.bind_some]
  refine RW.call (rf_look hN h k w s d a) ?_
  rintro r M1 F1 A1 h1 hq
  have hq' := hq
  obtain ⟨q0, q1, q2, q3, q4, q5, q6, q7⟩ := hq
  simp (disch := omega) only [MAt.ck h1, MAt.i0 h1, MAt.i2 h1, MAt.i3 h1, MAt.i4 h1, MAt.i5 h1, MAt.i6 h1, MAt.i7 h1, MAt.i8 h1, MAt.i9 h1, MAt.i15 h1, MAt.i18 h1, MAt.i21 h1, MAt.i22 h1, MAt.i23 h1, MAt.i24 h1, MAt.g1 h1, MAt.n1 h1, MAt.r1 h1, MAt.l1 h1, MAt.g10 h1, MAt.n10 h1, MAt.r10 h1, MAt.l10 h1, MAt.g11 h1, MAt.n11 h1, MAt.r11 h1, MAt.l11 h1, MAt.g12 h1, MAt.n12 h1, MAt.r12 h1, MAt.l12 h1, MAt.g13 h1, MAt.n13 h1, MAt.r13 h1, MAt.l13 h1, MAt.g14 h1, MAt.n14 h1, MAt.r14 h1, MAt.l14 h1, MAt.g16 h1, MAt.n16 h1, MAt.r16 h1, MAt.l16 h1, MAt.g17 h1, MAt.n17 h1, MAt.r17 h1, MAt.l17 h1, MAt.g19 h1, MAt.n19 h1, MAt.r19 h1, MAt.l19 h1, MAt.g20 h1, MAt.n20 h1, MAt.r20 h1, MAt.l20 h1, MAt.g25 h1, MAt.n25 h1, MAt.r25 h1, MAt.l25 h1, MAt.g26 h1, MAt.n26 h1, MAt.r26 h1, MAt.l26 h1, MAt.g27 h1, MAt.n27 h1, MAt.r27 h1, MAt.l27 h1, MAt.g28 h1, MAt.n28 h1, MAt.r28 h1, MAt.l28 h1, obs, b2s, lA, lB, lM, nI_add, pk_mul]
  rw [q7, q5]
  obtain ⟨x1, x2, x3, x4, x5⟩ := ex_fact κ (d + σ.1 0) (a + σ.1 1) (κ.2 0).length
  have y1 := exF_le κ (d + σ.1 0) (a + σ.1 1) (κ.2 5).length
  have hm2 : m ≤ 2000 := by
    obtain ⟨mm, z1, z2, rfl⟩ := hm
    exact nI_le (b := 2000) z2 (by omega)
  have hv : vdI κ (d + σ.1 0) (a + σ.1 1) m = if exF κ (d + σ.1 0) (a + σ.1 1) (κ.2 5).length = 1000000 then (if m ≤ (if (exT κ (d + σ.1 0) (a + σ.1 1) (-2) (κ.2 0).length).2.2 = 1000000 then 2000 else (exT κ (d + σ.1 0) (a + σ.1 1) (-2) (κ.2 0).length).2.2 - (exT κ (d + σ.1 0) (a + σ.1 1) (-2) (κ.2 0).length).2.1) then (exT κ (d + σ.1 0) (a + σ.1 1) 23 (κ.2 0).length).1 else 21) else if (exT κ (d + σ.1 0) (a + σ.1 1) (-2) (κ.2 0).length).2.1 < exF κ (d + σ.1 0) (a + σ.1 1) (κ.2 5).length then (if m ≤ (if (exT κ (d + σ.1 0) (a + σ.1 1) (-2) (κ.2 0).length).2.2 = 1000000 then 2000 else (exT κ (d + σ.1 0) (a + σ.1 1) (-2) (κ.2 0).length).2.2 - (exT κ (d + σ.1 0) (a + σ.1 1) (-2) (κ.2 0).length).2.1) then (exT κ (d + σ.1 0) (a + σ.1 1) 23 (κ.2 0).length).1 else 21) else 22 := by
    unfold vdI vdS vdP vdc
    rw [x1]
    by_cases e1 : exF κ (d + σ.1 0) (a + σ.1 1) (κ.2 5).length = 1000000
    · simp [e1]
    · by_cases e2 : (exT κ (d + σ.1 0) (a + σ.1 1) (-2) (κ.2 0).length).2.1 < exF κ (d + σ.1 0) (a + σ.1 1) (κ.2 5).length
      · simp [e1, e2]
      · simp [e1, e2, hm2]
  have main : RW M1 (fn_X10_verdict_29 N M1 389 m) (fun r F' A' => r = (if m ≤ (if (exT κ (d + σ.1 0) (a + σ.1 1) (-2) (κ.2 0).length).2.2 = 1000000 then 2000 else (exT κ (d + σ.1 0) (a + σ.1 1) (-2) (κ.2 0).length).2.2 - (exT κ (d + σ.1 0) (a + σ.1 1) (-2) (κ.2 0).length).2.1) then (exT κ (d + σ.1 0) (a + σ.1 1) 23 (κ.2 0).length).1 else 21) ∧ LkQ F A κ (d + σ.1 0) (a + σ.1 1) F' A') := by
    unfold fn_X10_verdict_29
    simp (disch := omega) only [MAt.ck h1, MAt.i0 h1, MAt.i2 h1, MAt.i3 h1, MAt.i4 h1, MAt.i5 h1, MAt.i6 h1, MAt.i7 h1, MAt.i8 h1, MAt.i9 h1, MAt.i15 h1, MAt.i18 h1, MAt.i21 h1, MAt.i22 h1, MAt.i23 h1, MAt.i24 h1, MAt.g1 h1, MAt.n1 h1, MAt.r1 h1, MAt.l1 h1, MAt.g10 h1, MAt.n10 h1, MAt.r10 h1, MAt.l10 h1, MAt.g11 h1, MAt.n11 h1, MAt.r11 h1, MAt.l11 h1, MAt.g12 h1, MAt.n12 h1, MAt.r12 h1, MAt.l12 h1, MAt.g13 h1, MAt.n13 h1, MAt.r13 h1, MAt.l13 h1, MAt.g14 h1, MAt.n14 h1, MAt.r14 h1, MAt.l14 h1, MAt.g16 h1, MAt.n16 h1, MAt.r16 h1, MAt.l16 h1, MAt.g17 h1, MAt.n17 h1, MAt.r17 h1, MAt.l17 h1, MAt.g19 h1, MAt.n19 h1, MAt.r19 h1, MAt.l19 h1, MAt.g20 h1, MAt.n20 h1, MAt.r20 h1, MAt.l20 h1, MAt.g25 h1, MAt.n25 h1, MAt.r25 h1, MAt.l25 h1, MAt.g26 h1, MAt.n26 h1, MAt.r26 h1, MAt.l26 h1, MAt.g27 h1, MAt.n27 h1, MAt.r27 h1, MAt.l27 h1, MAt.g28 h1, MAt.n28 h1, MAt.r28 h1, MAt.l28 h1, obs, b2s, lA, lB, lM, nI_add, pk_mul]
    rw [q5, q6, q4]
    by_cases e1 : (exT κ (d + σ.1 0) (a + σ.1 1) (-2) (κ.2 0).length).2.1 = 1000000
    · rw [if_pos e1]
      refine RW.ret h1 ⟨?_, hq'⟩
      rw [(x4 e1).1, (x4 e1).2, if_pos rfl, if_pos hm2]
    · rw [if_neg e1]
      by_cases e2 : (exT κ (d + σ.1 0) (a + σ.1 1) (-2) (κ.2 0).length).2.2 = 1000000
      · rw [if_pos (by rw [e2]; exact Int32.le_refl _)]
        refine RW.ret h1 ⟨?_, hq'⟩
        rw [e2, if_pos rfl, if_pos hm2, x5 e1]
      · rw [if_neg (fun q => e2 (i32_as x3 q)), if_neg e2]
        by_cases e3 : m ≤ (exT κ (d + σ.1 0) (a + σ.1 1) (-2) (κ.2 0).length).2.2 - (exT κ (d + σ.1 0) (a + σ.1 1) (-2) (κ.2 0).length).2.1
        · rw [if_pos e3]
          refine RW.ret h1 ⟨?_, hq'⟩
          rw [if_pos e3, x5 e1]
        · rw [if_neg e3]
          refine RW.ret h1 ⟨?_, hq'⟩
          rw [if_neg e3]
  by_cases e1 : exF κ (d + σ.1 0) (a + σ.1 1) (κ.2 5).length = 1000000
  · rw [if_pos (by rw [e1]; exact Int32.le_refl _), hv, if_pos e1]
    exact main
  · rw [if_neg (fun q => e1 (i32_as y1 q)), hv, if_neg e1]
    by_cases e2 : (exT κ (d + σ.1 0) (a + σ.1 1) (-2) (κ.2 0).length).2.1 < exF κ (d + σ.1 0) (a + σ.1 1) (κ.2 5).length
    · rw [if_pos e2, if_pos e2]
      exact main
    · rw [if_neg e2, if_neg e2]
      exact RW.ret h1 ⟨rfl, hq'⟩
theorem LkQ.qt {F F' : Nat → Int32} {A A' : Nat → Nat → Int32} {d a : Int32} (h : LkQ F A κ d a F' A') : Qt F A F' A' := by
  obtain ⟨rfl, q1, q2, q3, -⟩ := h
  exact ⟨q2, q3, rfl, rfl, rfl, rfl, rfl, rfl, rfl, rfl, rfl⟩
/-- score and classify: the answer, or what would be thrown -/
theorem rf_score (h : MAt M F A) (k : Rel F A bf κ σ U sn) (w : WF κ σ U sn) (x d a : Int32) : RW M (fn_X10_score N M 389 x d a) (fun r F' A' => Qt F A F' A' ∧ if hasI (κ.2 0).length x then (if meI d a then F' 0 = 0 ∧ r = (if scI κ 0 x (d + σ.1 0) (a + σ.1 1) = 1000000 then -2 else scI κ 0 x (d + σ.1 0) (a + σ.1 1)) else F' 0 = 2) else F' 0 = 1) := by
  unfold fn_X10_score
  have hb := w.1.1.1
  refine RW.pF h fun M1 h1 => ?_
  rw [h1.ck, Option.bind_some, rf_isType h1 k.2.1 w.1, b2s]
  by_cases hx : hasI (κ.2 0).length x = true
  · obtain ⟨j, hj, rfl⟩ := hasI_of hx (by omega)
    simp only [if_pos hx]
    rw [if_neg (by decide), ev_coin, b2s]
    by_cases hme : meI d a = true
    · simp only [if_pos hme]
      rw [if_neg (by decide), h1.ck, Option.bind_some, rf_scT h1 k.2.1 w.1 k.2.2.1 hj, b2s]
      split
      · exact RW.ret h1 ⟨Qt.u0, rfl, rfl⟩
      · exact RW.ret h1 ⟨Qt.u0, rfl, rfl⟩
    · simp only [if_neg hme]
      rw [if_pos trivial, h1.ck, Option.bind_some]
      refine RW.call (rf_fail h1 _) ?_
      rintro r M' F' A' h' ⟨rfl, rfl⟩
      exact RW.ret h' ⟨Qt.u0.tr Qt.u0, rfl⟩
  · simp only [if_neg hx]
    rw [if_pos trivial, h1.ck, Option.bind_some]
    refine RW.call (rf_fail h1 _) ?_
    rintro r M' F' A' h' ⟨rfl, rfl⟩
    exact RW.ret h' ⟨Qt.u0.tr Qt.u0, rfl⟩
theorem rf_classify (hN : 2 ^ 15 ≤ N) (h : MAt M F A) (k : Rel F A bf κ σ U sn) (w : WF κ σ U sn) (d a : Int32) : RW M (fn_X10_classify N M 389 d a) (fun r F' A' => Qt F A F' A' ∧ if meI d a then F' 0 = 0 ∧ r = vdI κ (d + σ.1 0) (a + σ.1 1) (σ.1 2) else F' 0 = 1) := by
  unfold fn_X10_classify
  refine RW.pF h fun M1 h1 => ?_
  rw [ev_coin, b2s]
  by_cases hme : meI d a = true
  · simp only [if_pos hme]
    rw [if_neg (by decide)]
    simp (disch := omega) only [MAt.ck h1, MAt.i0 h1, MAt.i2 h1, MAt.i3 h1, MAt.i4 h1, MAt.i5 h1, MAt.i6 h1, MAt.i7 h1, MAt.i8 h1, MAt.i9 h1, MAt.i15 h1, MAt.i18 h1, MAt.i21 h1, MAt.i22 h1, MAt.i23 h1, MAt.i24 h1, MAt.g1 h1, MAt.n1 h1, MAt.r1 h1, MAt.l1 h1, MAt.g10 h1, MAt.n10 h1, MAt.r10 h1, MAt.l10 h1, MAt.g11 h1, MAt.n11 h1, MAt.r11 h1, MAt.l11 h1, MAt.g12 h1, MAt.n12 h1, MAt.r12 h1, MAt.l12 h1, MAt.g13 h1, MAt.n13 h1, MAt.r13 h1, MAt.l13 h1, MAt.g14 h1, MAt.n14 h1, MAt.r14 h1, MAt.l14 h1, MAt.g16 h1, MAt.n16 h1, MAt.r16 h1, MAt.l16 h1, MAt.g17 h1, MAt.n17 h1, MAt.r17 h1, MAt.l17 h1, MAt.g19 h1, MAt.n19 h1, MAt.r19 h1, MAt.l19 h1, MAt.g20 h1, MAt.n20 h1, MAt.r20 h1, MAt.l20 h1, MAt.g25 h1, MAt.n25 h1, MAt.r25 h1, MAt.l25 h1, MAt.g26 h1, MAt.n26 h1, MAt.r26 h1, MAt.l26 h1, MAt.g27 h1, MAt.n27 h1, MAt.r27 h1, MAt.l27 h1, MAt.g28 h1, MAt.n28 h1, MAt.r28 h1, MAt.l28 h1, obs, b2s, lA, lB, lM, nI_add, pk_mul]
    rw [k.2.2.1.1.1.2.2.1]
    refine RW.call (rf_verdict hN h1 k.2.1 w.1 k.2.2.1 d a _ w.2.1.2.2.2.2.2.2.2.1) ?_
    rintro r M' F' A' h' ⟨rfl, q⟩
    exact RW.ret h' ⟨Qt.u0.tr q.qt, q.2.1, rfl⟩
  · simp only [if_neg hme]
    rw [if_pos trivial, h1.ck, Option.bind_some]
    refine RW.call (rf_fail h1 _) ?_
    rintro r M' F' A' h' ⟨rfl, rfl⟩
    exact RW.ret h' ⟨Qt.u0.tr Qt.u0, rfl⟩
end RV
