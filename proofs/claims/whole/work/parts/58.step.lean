/-! PURE: step and run in the reference -/
theorem va_comm {α : Type} {f : Nat → α} {i j : Nat} {a b : α} (h : i ≠ j) : va_up (va_up f i a) j b = va_up (va_up f j b) i a := by
  funext q
  unfold va_up
  by_cases h1 : q = j
  · rw [if_pos h1, if_neg (by omega), if_pos h1]
  · rw [if_neg h1]
    by_cases h2 : q = i
    · rw [if_pos h2, if_pos h2]
    · rw [if_neg h2, if_neg h2, if_neg h1]
section RQ
variable {N : Nat} {F : Nat → Int32} {A : Nat → Nat → Int32} {bf : List Int32} {κ : Cf} {σ : St} {U : List St} {sn : Nat → Option St}
theorem rs_inc2 {S : Nat → Int32} {b : Nat} (hs : RelS S σ) (hb : b < (σ.2 2).length) : RelS (upd S (14 + b) ((σ.2 2).getD b 0 + 1)) (σ.1, va_up σ.2 2 ((σ.2 2).set b ((σ.2 2).getD b 0 + 1))) := by
  have hl := hs.2.1.2.2.1
  refine hs.bin (fun q hq hq2 => pk_un (by omega)) (by rw [List.length_set]; exact hl) (fun i hi => ?_)
  rw [List.length_set] at hi
  by_cases he : i = b
  · subst he
    rw [pk_us]
    simp [hi]
  · rw [pk_un (by omega), hs.2.2.2.1 i hi]
    simp [List.getD_eq_getElem?_getD, List.getElem?_set_ne (Ne.symm he)]
theorem rs_inc3 {S : Nat → Int32} {b : Nat} (hs : RelS S σ) (hb : b < 4) : RelS (upd S (10 + b) ((σ.2 3).getD b 0 + 1)) (σ.1, va_up σ.2 3 ((σ.2 3).set b ((σ.2 3).getD b 0 + 1))) := by
  have hl := hs.2.1.2.2.2.1
  refine hs.rej (fun q hq hq2 => pk_un (by omega)) (by rw [List.length_set]; exact hl) (fun i hi => ?_)
  by_cases he : i = b
  · subst he
    rw [pk_us]
    simp [hl, hi]
  · rw [pk_un (by omega), hs.2.2.1 i hi]
    simp [List.getD_eq_getElem?_getD, List.getElem?_set_ne (Ne.symm he)]
theorem rf_ds141 (hN : 2 ^ 15 ≤ N) {M : Mem} {S : Nat → Int32} {o : Int32} {τ : St} (h : MAt M F (va_up A 16 S)) (hs : RelS S σ) (h0 : 0 < (σ.2 0).length) (e : (σ.1, va_up σ.2 0 ((σ.2 0).eraseIdx 0)) = τ) : RW M (fn_X10_doStep_141 N M 389 o) (fun _ F' A' => F' 0 = F 0 ∧ F' 2 = F 2 ∧ F' 18 = F 18 ∧ ∃ S', A' = va_up A 16 S' ∧ RelS S' (mv3 τ o)) := by
  unfold fn_X10_doStep_141
  rw [h.ck, obs]
  refine RW.call (rf_takeFromHopper hN h hs h0) ?_
  rintro r M1 F1 A1 h1 ⟨rfl, S1, rfl, hs1⟩
  rw [h1.ck, obs]
  refine RW.call (rf_note hN h1 hs1 o) ?_
  rintro r M2 F2 A2 h2 ⟨rfl, S2, rfl, hs2⟩
  rw [e] at hs2
  exact RW.ret h2 ⟨rfl, rfl, rfl, S2, rfl, hs2⟩
theorem rf_doStep (hN : 2 ^ 15 ≤ N) {M : Mem} {o : Int32} (h : MAt M F A) (k : RelK (A 10) (A 12) (A 13) (A 14) κ) (hs : RelS (A 16) σ) (w : WFK κ) (ws : WFS κ σ) (ho : StepK κ σ o) : RW M (fn_X10_doStep N M 389 o) (fun _ F' A' => F' 0 = F 0 ∧ F' 2 = F 2 ∧ F' 18 = F 18 ∧ ∃ S', A' = va_up A 16 S' ∧ RelS S' (mvI κ σ o)) := by
  have h8 := w.1.2.2.2.2.1
  have hb2 := ws.1
  have hl1 := hs.2.1.2.1
  have hl0 := hs.2.1.1
  unfold fn_X10_doStep mvI
  rw [h.ck, obs, rf_movable hN h k hs w ws, b2s]
  have hA : MAt M F (va_up A 16 (A 16)) := by rw [va_self]; exact h
  rcases ho with ⟨q, b, hn, q1, b1, rfl, -⟩ | ⟨hn, h0, ho⟩
  · rw [hn, mv1_some hn, mv2_b (by omega), show nlw (some q) = nI q from rfl, if_neg (nI_pos (by omega)), h.ck, obs]
    refine RW.call (rf_takeFromLoop hN hA hs q1) ?_
    rintro r M1 F1 A1 h1 ⟨rfl, S1, rfl, hs1⟩
    simp (disch := omega) only [MAt.ck h1, MAt.i0 h1, MAt.i2 h1, MAt.i3 h1, MAt.i4 h1, MAt.i5 h1, MAt.i6 h1, MAt.i7 h1, MAt.i8 h1, MAt.i9 h1, MAt.i15 h1, MAt.i18 h1, MAt.i21 h1, MAt.i22 h1, MAt.i23 h1, MAt.i24 h1, MAt.g1 h1, MAt.n1 h1, MAt.r1 h1, MAt.l1 h1, MAt.g10 h1, MAt.n10 h1, MAt.r10 h1, MAt.l10 h1, MAt.g11 h1, MAt.n11 h1, MAt.r11 h1, MAt.l11 h1, MAt.g12 h1, MAt.n12 h1, MAt.r12 h1, MAt.l12 h1, MAt.g13 h1, MAt.n13 h1, MAt.r13 h1, MAt.l13 h1, MAt.g14 h1, MAt.n14 h1, MAt.r14 h1, MAt.l14 h1, MAt.g16 h1, MAt.n16 h1, MAt.r16 h1, MAt.l16 h1, MAt.g17 h1, MAt.n17 h1, MAt.r17 h1, MAt.l17 h1, MAt.g19 h1, MAt.n19 h1, MAt.r19 h1, MAt.l19 h1, MAt.g20 h1, MAt.n20 h1, MAt.r20 h1, MAt.l20 h1, MAt.g25 h1, MAt.n25 h1, MAt.r25 h1, MAt.l25 h1, MAt.g26 h1, MAt.n26 h1, MAt.r26 h1, MAt.l26 h1, MAt.g27 h1, MAt.n27 h1, MAt.r27 h1, MAt.l27 h1, MAt.g28 h1, MAt.n28 h1, MAt.r28 h1, MAt.l28 h1, obs, b2s, lA, lB, lM, nI_add, pk_mul, v1616, v1610, v1612, v1613, v1614, v1617, v1627, v1716, v1710, v1712, v1713, v1714, v1727]
    have e1 : S1 (14 + b) = (σ.2 2).getD b 0 := hs1.2.2.2.1 b (show b < (σ.2 2).length by omega)
    rw [e1]
    refine RW.s16 h1 (by omega) fun M2 h2 => ?_
    rw [h2.ck, obs]
    have hs2 := rs_inc2 (b := b) hs1 (show b < (σ.2 2).length by omega)
    refine RW.call (rf_note hN h2 hs2 _) ?_
    rintro r M3 F3 A3 h3 ⟨rfl, S3, rfl, hs3⟩
    exact RW.ret h3 ⟨rfl, rfl, rfl, S3, rfl, hs3⟩
  · rw [hn, if_pos (show nlw none < 0 from by decide)]
    by_cases h20 : o = 20
    · subst h20
      have hcap : ¬ κ.1 1 ≤ nI (σ.2 1).length := by
        rcases ho with ⟨b, b1, b2, -⟩ | ⟨j, j1, j2⟩ | q | ⟨-, q, -⟩
        · exact absurd b2.symm (nI_n24 (show b < 20 by omega)).2.2.2.1
        · have := (nI_eq (a := 20) (b := 21 + j) (by omega) (by omega)).mp j2; omega
        · exact absurd q (by decide)
        · exact q
      have hlt := cap20 w.2.2.2.2.2.1 hl1 hcap
      rw [if_pos rfl, mv1_20 hn, mv2_20]
      simp (disch := omega) only [MAt.ck h, MAt.i0 h, MAt.i2 h, MAt.i3 h, MAt.i4 h, MAt.i5 h, MAt.i6 h, MAt.i7 h, MAt.i8 h, MAt.i9 h, MAt.i15 h, MAt.i18 h, MAt.i21 h, MAt.i22 h, MAt.i23 h, MAt.i24 h, MAt.g1 h, MAt.n1 h, MAt.r1 h, MAt.l1 h, MAt.g10 h, MAt.n10 h, MAt.r10 h, MAt.l10 h, MAt.g11 h, MAt.n11 h, MAt.r11 h, MAt.l11 h, MAt.g12 h, MAt.n12 h, MAt.r12 h, MAt.l12 h, MAt.g13 h, MAt.n13 h, MAt.r13 h, MAt.l13 h, MAt.g14 h, MAt.n14 h, MAt.r14 h, MAt.l14 h, MAt.g16 h, MAt.n16 h, MAt.r16 h, MAt.l16 h, MAt.g17 h, MAt.n17 h, MAt.r17 h, MAt.l17 h, MAt.g19 h, MAt.n19 h, MAt.r19 h, MAt.l19 h, MAt.g20 h, MAt.n20 h, MAt.r20 h, MAt.l20 h, MAt.g25 h, MAt.n25 h, MAt.r25 h, MAt.l25 h, MAt.g26 h, MAt.n26 h, MAt.r26 h, MAt.l26 h, MAt.g27 h, MAt.n27 h, MAt.r27 h, MAt.l27 h, MAt.g28 h, MAt.n28 h, MAt.r28 h, MAt.l28 h, obs, b2s, lA, lB, lM, nI_add, pk_mul]
      have e1 := (hs.2.2.2.2.2.2.1 0 h0).1
      have e2 := (hs.2.2.2.2.2.2.1 0 h0).2
      simp only [Nat.mul_zero, Nat.add_zero] at e1 e2
      rw [e1, show A 16 83 = (σ.2 0).getD 0 0 - (σ.2 0).getD 0 0 / 10000 * 10000 from e2, hs.1.1.2.2.1, hs.1.2.2.1]
      refine RW.call (rf_verdict hN h k w hs _ _ _ ws.2.2.2.2.2.2.2.1) ?_
      rintro r M1 F1 A1 h1 ⟨rfl, q⟩
      obtain ⟨rfl, q0, q2, q18, -⟩ := q
      have hA1 : MAt M1 F1 (va_up A1 16 (A1 16)) := by rw [va_self]; exact h1
      rw [lA]
      refine RW.s16 hA1 (by omega) fun M2 h2 => ?_
      simp (disch := omega) only [MAt.ck h2, MAt.i0 h2, MAt.i2 h2, MAt.i3 h2, MAt.i4 h2, MAt.i5 h2, MAt.i6 h2, MAt.i7 h2, MAt.i8 h2, MAt.i9 h2, MAt.i15 h2, MAt.i18 h2, MAt.i21 h2, MAt.i22 h2, MAt.i23 h2, MAt.i24 h2, MAt.g1 h2, MAt.n1 h2, MAt.r1 h2, MAt.l1 h2, MAt.g10 h2, MAt.n10 h2, MAt.r10 h2, MAt.l10 h2, MAt.g11 h2, MAt.n11 h2, MAt.r11 h2, MAt.l11 h2, MAt.g12 h2, MAt.n12 h2, MAt.r12 h2, MAt.l12 h2, MAt.g13 h2, MAt.n13 h2, MAt.r13 h2, MAt.l13 h2, MAt.g14 h2, MAt.n14 h2, MAt.r14 h2, MAt.l14 h2, MAt.g16 h2, MAt.n16 h2, MAt.r16 h2, MAt.l16 h2, MAt.g17 h2, MAt.n17 h2, MAt.r17 h2, MAt.l17 h2, MAt.g19 h2, MAt.n19 h2, MAt.r19 h2, MAt.l19 h2, MAt.g20 h2, MAt.n20 h2, MAt.r20 h2, MAt.l20 h2, MAt.g25 h2, MAt.n25 h2, MAt.r25 h2, MAt.l25 h2, MAt.g26 h2, MAt.n26 h2, MAt.r26 h2, MAt.l26 h2, MAt.g27 h2, MAt.n27 h2, MAt.r27 h2, MAt.l27 h2, MAt.g28 h2, MAt.n28 h2, MAt.r28 h2, MAt.l28 h2, obs, b2s, lA, lB, lM, nI_add, pk_mul, v1616, v1610, v1612, v1613, v1614, v1617, v1627, v1716, v1710, v1712, v1713, v1714, v1727]
      rw [pk_un (by omega), hs.1.2.2.1, nI_1]
      refine RW.s16 (j := 4) h2 (by omega) fun M3 h3 => ?_
      have hs3 : RelS (upd (upd (A1 16) (22 + (σ.2 1).length) (nvI κ σ ((σ.2 0).getD 0 0))) 4 (nI ((σ.2 1).length + 1))) (σ.1, va_up σ.2 1 (σ.2 1 ++ [nvI κ σ ((σ.2 0).getD 0 0)])) := by
        refine hs.lop (fun q hq hq2 => ?_) ?_ ?_ (fun i hi => ?_)
        · rw [pk_un (by omega), pk_un (by omega)]
        · rw [pk_us, List.length_append]; rfl
        · rw [List.length_append]; show (σ.2 1).length + 1 ≤ 20; omega
        · rw [List.length_append] at hi
          have hi' : i < (σ.2 1).length + 1 := hi
          rw [pk_un (by omega)]
          by_cases he : i = (σ.2 1).length
          · rw [getD_app1 he, he, pk_us]
          · rw [getD_app (by omega), pk_un (by omega)]
            exact hs.2.2.2.2.1 i (by omega)
      refine (rf_ds141 (N := N) hN h3 hs3 h0 (τ := (σ.1, va_up (va_up σ.2 0 ((σ.2 0).eraseIdx 0)) 1 (σ.2 1 ++ [nvI κ σ ((σ.2 0).getD 0 0)]))) ?_).imp ?_
      · show (σ.1, va_up (va_up σ.2 1 _) 0 ((σ.2 0).eraseIdx 0)) = _
        rw [va_comm (by omega)]
      · rintro r F' A' ⟨p1, p2, p3, p4⟩
        exact ⟨p1.trans q0, p2.trans q2, p3.trans q18, p4⟩
    · rw [if_neg h20, mv1_no hn h20]
      rcases ho with ⟨b, b1, rfl, -⟩ | ⟨j, j1, rfl⟩ | rfl | ⟨q, -⟩
      · obtain ⟨g1, g2, g3, g4, g5, g6, g7⟩ := nI_n24 (show b < 20 by omega)
        rw [if_neg g1, if_pos g7, mv2_b (by omega)]
        simp (disch := omega) only [MAt.ck hA, MAt.i0 hA, MAt.i2 hA, MAt.i3 hA, MAt.i4 hA, MAt.i5 hA, MAt.i6 hA, MAt.i7 hA, MAt.i8 hA, MAt.i9 hA, MAt.i15 hA, MAt.i18 hA, MAt.i21 hA, MAt.i22 hA, MAt.i23 hA, MAt.i24 hA, MAt.g1 hA, MAt.n1 hA, MAt.r1 hA, MAt.l1 hA, MAt.g10 hA, MAt.n10 hA, MAt.r10 hA, MAt.l10 hA, MAt.g11 hA, MAt.n11 hA, MAt.r11 hA, MAt.l11 hA, MAt.g12 hA, MAt.n12 hA, MAt.r12 hA, MAt.l12 hA, MAt.g13 hA, MAt.n13 hA, MAt.r13 hA, MAt.l13 hA, MAt.g14 hA, MAt.n14 hA, MAt.r14 hA, MAt.l14 hA, MAt.g16 hA, MAt.n16 hA, MAt.r16 hA, MAt.l16 hA, MAt.g17 hA, MAt.n17 hA, MAt.r17 hA, MAt.l17 hA, MAt.g19 hA, MAt.n19 hA, MAt.r19 hA, MAt.l19 hA, MAt.g20 hA, MAt.n20 hA, MAt.r20 hA, MAt.l20 hA, MAt.g25 hA, MAt.n25 hA, MAt.r25 hA, MAt.l25 hA, MAt.g26 hA, MAt.n26 hA, MAt.r26 hA, MAt.l26 hA, MAt.g27 hA, MAt.n27 hA, MAt.r27 hA, MAt.l27 hA, MAt.g28 hA, MAt.n28 hA, MAt.r28 hA, MAt.l28 hA, obs, b2s, lA, lB, lM, nI_add, pk_mul]
        rw [show va_up A 16 (A 16) 16 = A 16 from v1616, hs.2.2.2.1 b (by omega)]
        refine RW.s16 hA (by omega) fun M1 h1 => ?_
        refine rf_ds141 (N := N) hN h1 (rs_inc2 (b := b) hs (by omega)) h0 ?_
        show (σ.1, va_up (va_up σ.2 2 _) 0 ((σ.2 0).eraseIdx 0)) = _
        rw [va_comm (by omega)]
        rfl
      · rw [if_neg (by intro q; have := (nI_eq (a := 21 + j) (b := 24) (by omega) (by omega)).mp q; omega), if_neg (show ¬ nI (21 + j) < 21 from nI_nlt (b := 21) (by omega) (by omega)), mv2_r j1, h.g16, obs, rf_rej, b2s, if_pos ⟨nI_le (a := 21) (by omega) (by omega), nI_le (b := 24) (by omega) (by omega)⟩, lA, lS (by omega), show 10 + (21 + j) - 21 = 10 + j by omega]
        simp (disch := omega) only [MAt.ck hA, MAt.i0 hA, MAt.i2 hA, MAt.i3 hA, MAt.i4 hA, MAt.i5 hA, MAt.i6 hA, MAt.i7 hA, MAt.i8 hA, MAt.i9 hA, MAt.i15 hA, MAt.i18 hA, MAt.i21 hA, MAt.i22 hA, MAt.i23 hA, MAt.i24 hA, MAt.g1 hA, MAt.n1 hA, MAt.r1 hA, MAt.l1 hA, MAt.g10 hA, MAt.n10 hA, MAt.r10 hA, MAt.l10 hA, MAt.g11 hA, MAt.n11 hA, MAt.r11 hA, MAt.l11 hA, MAt.g12 hA, MAt.n12 hA, MAt.r12 hA, MAt.l12 hA, MAt.g13 hA, MAt.n13 hA, MAt.r13 hA, MAt.l13 hA, MAt.g14 hA, MAt.n14 hA, MAt.r14 hA, MAt.l14 hA, MAt.g16 hA, MAt.n16 hA, MAt.r16 hA, MAt.l16 hA, MAt.g17 hA, MAt.n17 hA, MAt.r17 hA, MAt.l17 hA, MAt.g19 hA, MAt.n19 hA, MAt.r19 hA, MAt.l19 hA, MAt.g20 hA, MAt.n20 hA, MAt.r20 hA, MAt.l20 hA, MAt.g25 hA, MAt.n25 hA, MAt.r25 hA, MAt.l25 hA, MAt.g26 hA, MAt.n26 hA, MAt.r26 hA, MAt.l26 hA, MAt.g27 hA, MAt.n27 hA, MAt.r27 hA, MAt.l27 hA, MAt.g28 hA, MAt.n28 hA, MAt.r28 hA, MAt.l28 hA, obs, b2s, lA, lB, lM, nI_add, pk_mul]
        rw [show va_up A 16 (A 16) 16 = A 16 from v1616, hs.2.2.1 j (by omega)]
        refine RW.s16 hA (by omega) fun M1 h1 => ?_
        refine rf_ds141 (N := N) hN h1 (rs_inc3 (b := j) hs (by omega)) h0 ?_
        show (σ.1, va_up (va_up σ.2 3 _) 0 ((σ.2 0).eraseIdx 0)) = _
        rw [va_comm (by omega)]
        rfl
      · rw [if_pos rfl, mv2_24]
        simp (disch := omega) only [MAt.ck hA, MAt.i0 hA, MAt.i2 hA, MAt.i3 hA, MAt.i4 hA, MAt.i5 hA, MAt.i6 hA, MAt.i7 hA, MAt.i8 hA, MAt.i9 hA, MAt.i15 hA, MAt.i18 hA, MAt.i21 hA, MAt.i22 hA, MAt.i23 hA, MAt.i24 hA, MAt.g1 hA, MAt.n1 hA, MAt.r1 hA, MAt.l1 hA, MAt.g10 hA, MAt.n10 hA, MAt.r10 hA, MAt.l10 hA, MAt.g11 hA, MAt.n11 hA, MAt.r11 hA, MAt.l11 hA, MAt.g12 hA, MAt.n12 hA, MAt.r12 hA, MAt.l12 hA, MAt.g13 hA, MAt.n13 hA, MAt.r13 hA, MAt.l13 hA, MAt.g14 hA, MAt.n14 hA, MAt.r14 hA, MAt.l14 hA, MAt.g16 hA, MAt.n16 hA, MAt.r16 hA, MAt.l16 hA, MAt.g17 hA, MAt.n17 hA, MAt.r17 hA, MAt.l17 hA, MAt.g19 hA, MAt.n19 hA, MAt.r19 hA, MAt.l19 hA, MAt.g20 hA, MAt.n20 hA, MAt.r20 hA, MAt.l20 hA, MAt.g25 hA, MAt.n25 hA, MAt.r25 hA, MAt.l25 hA, MAt.g26 hA, MAt.n26 hA, MAt.r26 hA, MAt.l26 hA, MAt.g27 hA, MAt.n27 hA, MAt.r27 hA, MAt.l27 hA, MAt.g28 hA, MAt.n28 hA, MAt.r28 hA, MAt.l28 hA, obs, b2s, lA, lB, lM, nI_add, pk_mul]
        refine RW.s16 (j := 5) hA (by omega) fun M1 h1 => ?_
        have hs1 : RelS (upd (A 16) 5 1) (upd σ.1 3 1, σ.2) := hs.nums (fun q hq hq2 => pk_un (by omega)) hs.1.1.1 hs.1.1.2.1 hs.1.1.2.2.1 rfl hs.1.1.2.2.2.2
        exact rf_ds141 (N := N) hN h1 hs1 h0 rfl
      · exact absurd q h20
theorem ev_isStep {M : Mem} (x : Int32) : fn_X10_isStep N M 389 x = some (if x = -2 ∨ x = 30 then 0 else 1, M) := by
  unfold fn_X10_isStep
  by_cases h1 : x = -2
  · rw [if_pos h1, if_pos (Or.inl h1)]
  · rw [if_neg h1]
    by_cases h2 : x = 30
    · rw [if_pos h2, if_pos (Or.inr h2)]
    · rw [if_neg h2, if_neg (by intro q; rcases q with q | q; exact h1 q; exact h2 q)]
theorem rf_step (hN : 2 ^ 15 ≤ N) {M : Mem} (h : MAt M F A) (k : Rel F A bf κ σ U sn) (w : WF κ σ U sn) : RO bf κ sn M (fn_X10_step N M 389) (if nxI κ σ = -2 ∨ nxI κ σ = 30 then (-2, σ, U) else (nxI κ σ, mvI κ σ (nxI κ σ), pushU σ U)) := by
  unfold RO fn_X10_step
  refine RW.pF h fun M1 h1 => ?_
  have k1 : Rel (upd F 0 0) A bf κ σ U sn := k.qc Qt.u0
  rw [h1.ck, obs]
  refine RW.call (rf_next hN h1 k1.2.1 k1.2.2.1 w.1 w.2.1) ?_
  rintro r M2 F2 A2 h2 ⟨rfl, rfl, q0, q2, q18⟩
  have k2 : Rel F2 A2 bf κ σ U sn := k1.qc ⟨q2, q18, rfl, rfl, rfl, rfl, rfl, rfl, rfl, rfl, rfl⟩
  rw [h2.ck, obs, ev_isStep, b2s]
  by_cases g : nxI κ σ = -2 ∨ nxI κ σ = 30
  · simp only [if_pos g]
    rw [if_pos trivial]
    exact RW.ret h2 ⟨rfl, k2⟩
  · simp only [if_neg g]
    rw [if_neg (by decide), h2.ck, obs]
    refine RW.call (rf_keep2 hN h2 k2) ?_
    rintro r M3 F3 A3 h3 ⟨p0, p2, H, rfl, hu⟩
    rw [h3.ck, obs]
    refine RW.call (rf_doStep hN h3 (by rw [v1610, v1612, v1613, v1614, v1710, v1712, v1713, v1714]; exact k2.2.1) (by rw [v1616]; exact k2.2.2.1) w.1 w.2.1 (nx_step w.1 (fun q => g (Or.inl q)) (fun q => g (Or.inr q)))) ?_
    rintro r M4 F4 A4 h4 ⟨t0, t2, t18, S', rfl, hs⟩
    refine RW.ret h4 ⟨rfl, ?_⟩
    rw [bx_uu]
    refine k2.kept (t2.trans p2) ?_ hs
    rw [t18]
    exact hu
theorem rf_run1 (hN : 2 ^ 15 ≤ N) (w : WFK κ) (n : Nat) (hn : n ≤ 100) : ∀ (m d : Nat) (M : Mem) (F : Nat → Int32) (A : Nat → Nat → Int32) (σ : St), MAt M F A → RelK (A 10) (A 12) (A 13) (A 14) κ → RelS (A 16) σ → WFS κ σ → d ≤ n → n - d < m → RW M (fn_X10_run_43 N m M 389 (nI n) (nI d) (nxI κ σ)) (fun r F' A' => r = nI (d + (rnS κ (n - d) σ).1) ∧ F' 0 = F 0 ∧ F' 2 = F 2 ∧ F' 18 = F 18 ∧ ∃ S', A' = va_up A 16 S' ∧ RelS S' (rnS κ (n - d) σ).2) := by
  intro m
  induction m with
  | zero => intro d M F A σ _ _ _ _ _ h; omega
  | succ m ih =>
    intro d M F A σ h k hs ws hd hm
    rw [fn_X10_run_43.eq_2]
    by_cases he : d = n
    · subst he
      rw [if_pos (Int32.le_refl _), Nat.sub_self]
      exact RW.ret h ⟨rfl, rfl, rfl, rfl, A 16, va_self.symm, hs⟩
    · rw [if_neg (nI_ge (by omega) (by omega)), h.ck, obs, ev_isStep, b2s]
      obtain ⟨r, hr⟩ : ∃ r, n - d = r + 1 := ⟨n - d - 1, by omega⟩
      rw [hr, rnS]
      by_cases g : nxI κ σ = -2 ∨ nxI κ σ = 30
      · simp only [if_pos g]
        rw [if_pos trivial]
        exact RW.ret h ⟨rfl, rfl, rfl, rfl, A 16, va_self.symm, hs⟩
      · simp only [if_neg g]
        rw [if_neg (by decide), h.ck, obs]
        have hst := nx_step w (fun q => g (Or.inl q)) (fun q => g (Or.inr q))
        refine RW.call (rf_doStep hN h k hs w ws hst) ?_
        rintro r1 M1 F1 A1 h1 ⟨t0, t2, t18, S1, rfl, hs1⟩
        obtain ⟨ws', -⟩ := ws.mv w hs.2.1.2.2.2.1 hst
        have k1 : RelK (va_up A 16 S1 10) (va_up A 16 S1 12) (va_up A 16 S1 13) (va_up A 16 S1 14) κ := by rw [v1610, v1612, v1613, v1614]; exact k
        have hs1' : RelS (va_up A 16 S1 16) (mvI κ σ (nxI κ σ)) := by rw [v1616]; exact hs1
        rw [h1.ck, obs]
        refine RW.call (rf_next hN h1 k1 hs1' w ws') ?_
        rintro r2 M2 F2 A2 h2 ⟨rfl, rfl, p0, p2, p18⟩
        rw [nI_1]
        refine (ih (d + 1) M2 F2 _ _ h2 k1 hs1' ws' (by omega) (by omega)).imp ?_
        rintro r3 F3 A3 ⟨z1, z2, z3, z4, S3, z5, z6⟩
        rw [show n - (d + 1) = r by omega] at z1 z6
        refine ⟨?_, z2.trans (p0.trans t0), z3.trans (p2.trans t2), z4.trans (p18.trans t18), S3, ?_, z6⟩
        · rw [z1]
          congr 1
          omega
        · rw [z5, bx_uu]
theorem rf_run (hN : 2 ^ 15 ≤ N) {M : Mem} (h : MAt M F A) (k : Rel F A bf κ σ U sn) (w : WF κ σ U sn) (x : Int32) : RO bf κ sn M (fn_X10_run N M 389 x) (rnI κ σ U x) := by
  unfold RO fn_X10_run rnI
  refine RW.pF h fun M1 h1 => ?_
  have k1 : Rel (upd F 0 0) A bf κ σ U sn := k.qc Qt.u0
  rw [L1, L100, ev_within, b2s]
  by_cases g : 1 ≤ x ∧ x ≤ 100
  · simp only [if_pos g]
    rw [if_neg (by decide), h1.ck, obs]
    obtain ⟨n, n1, rfl⟩ := nI_of2 (x := x) (M := 100) (n := 100) rfl (by intro q; have := Int32.lt_iff_toInt_lt.mp q; have h1 := Int32.le_iff_toInt_le.mp g.1; rw [show (1 : Int32).toInt = 1 from rfl] at h1; rw [show (0 : Int32).toInt = 0 from rfl] at this; omega) g.2
    have n2 : 1 ≤ n := by
      have := (lLe (m := 1) (n := n) (by decide) (by omega)).mp g.1
      exact this
    rw [nI_clamp (by omega)]
    refine RW.call (rf_next hN h1 k1.2.1 k1.2.2.1 w.1 w.2.1) ?_
    rintro r M2 F2 A2 h2 ⟨rfl, rfl, q0, q2, q18⟩
    have k2 : Rel F2 A2 bf κ σ U sn := k1.qc ⟨q2, q18, rfl, rfl, rfl, rfl, rfl, rfl, rfl, rfl, rfl⟩
    rw [h2.ck, obs, ev_isStep, b2s]
    obtain ⟨r, hr⟩ : ∃ r, n = r + 1 := ⟨n - 1, by omega⟩
    by_cases g' : nxI κ σ = -2 ∨ nxI κ σ = 30
    · rw [if_pos g', if_pos rfl]
      have e : rnS κ n σ = (0, σ) := by rw [hr, rnS, if_pos g']
      rw [e]
      exact RW.ret h2 ⟨rfl, k2⟩
    · rw [if_neg g', if_neg (by decide), h2.ck, obs]
      refine RW.call (rf_keep2 hN h2 k2) ?_
      rintro r' M3 F3 A3 h3 ⟨p0, p2, H, rfl, hu⟩
      have k3 : RelK (va_up (va_up A2 17 H) 16 (A2 16) 10) (va_up (va_up A2 17 H) 16 (A2 16) 12) (va_up (va_up A2 17 H) 16 (A2 16) 13) (va_up (va_up A2 17 H) 16 (A2 16) 14) κ := by rw [v1610, v1612, v1613, v1614, v1710, v1712, v1713, v1714]; exact k2.2.1
      have hs3 : RelS (va_up (va_up A2 17 H) 16 (A2 16) 16) σ := by rw [v1616]; exact k2.2.2.1
      rw [h3.ck, obs]
      refine RW.call (rf_next hN h3 k3 hs3 w.1 w.2.1) ?_
      rintro r4 M4 F4 A4 h4 ⟨rfl, rfl, t0, t2, t18⟩
      have := rf_run1 (N := N) hN w.1 n (by omega) N 0 M4 F4 _ σ h4 k3 hs3 w.2.1 (by omega) (by omega)
      rw [nI_0, Nat.sub_zero, Nat.zero_add] at this
      refine this.imp ?_
      rintro r5 F5 A5 ⟨rfl, z2, z3, z4, S5, rfl, z6⟩
      have hne : ¬ (rnS κ n σ).1 = 0 := by rw [hr, rnS, if_neg g']; exact Nat.succ_ne_zero _
      refine ⟨rfl, ?_⟩
      rw [if_neg hne, bx_uu]
      refine k2.kept (z3.trans (t2.trans p2)) ?_ z6
      rw [z4, t18]
      exact hu
  · simp only [if_neg g]
    rw [if_pos trivial]
    exact RW.ret h1 ⟨rfl, k1⟩
end RQ
