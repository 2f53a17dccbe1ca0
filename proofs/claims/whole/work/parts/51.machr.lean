/-! PURE: bins, loop, the next outcome: the reference's side -/
section RM
variable {N : Nat} {M : Mem} {F : Nat → Int32} {A : Nat → Nat → Int32} {bf : List Int32} {κ : Cf} {σ : St} {U : List St} {sn : Nat → Option St}
theorem rf_missing (h : MAt M F A) (k : RelK (A 10) (A 12) (A 13) (A 14) κ) (s : RelS (A 16) σ) (w : WFK κ) (ws : WFS κ σ) {b : Nat} (hb : b < (κ.2 10).length) : fn_X10_missing N M 389 (nI b) = some (needI κ σ b, M) := by
  have h8 := w.1.2.2.2.2.1
  have hs := ws.1
  unfold fn_X10_missing needI
  simp (disch := omega) only [MAt.ck h, MAt.i0 h, MAt.i2 h, MAt.i3 h, MAt.i4 h, MAt.i5 h, MAt.i6 h, MAt.i7 h, MAt.i8 h, MAt.i9 h, MAt.i15 h, MAt.i18 h, MAt.i21 h, MAt.i22 h, MAt.i23 h, MAt.i24 h, MAt.g1 h, MAt.n1 h, MAt.r1 h, MAt.l1 h, MAt.g10 h, MAt.n10 h, MAt.r10 h, MAt.l10 h, MAt.g11 h, MAt.n11 h, MAt.r11 h, MAt.l11 h, MAt.g12 h, MAt.n12 h, MAt.r12 h, MAt.l12 h, MAt.g13 h, MAt.n13 h, MAt.r13 h, MAt.l13 h, MAt.g14 h, MAt.n14 h, MAt.r14 h, MAt.l14 h, MAt.g16 h, MAt.n16 h, MAt.r16 h, MAt.l16 h, MAt.g17 h, MAt.n17 h, MAt.r17 h, MAt.l17 h, MAt.g19 h, MAt.n19 h, MAt.r19 h, MAt.l19 h, MAt.g20 h, MAt.n20 h, MAt.r20 h, MAt.l20 h, MAt.g25 h, MAt.n25 h, MAt.r25 h, MAt.l25 h, MAt.g26 h, MAt.n26 h, MAt.r26 h, MAt.l26 h, MAt.g27 h, MAt.n27 h, MAt.r27 h, MAt.l27 h, MAt.g28 h, MAt.n28 h, MAt.r28 h, MAt.l28 h, obs, b2s, lA, lB, lM, nI_add, pk_mul]
  rw [(k.2.2.2 b hb).2, s.2.2.2.1 b (by omega)]
theorem rf_room (h : MAt M F A) (k : RelK (A 10) (A 12) (A 13) (A 14) κ) (s : RelS (A 16) σ) (w : WFK κ) (ws : WFS κ σ) (t : Int32) : ∀ (m i : Nat), i ≤ (κ.2 10).length → (κ.2 10).length - i < m → fn_X10_roomFor_5 N m M 389 t (rmS κ σ t i) (nI i) = some (rmI κ σ t, M) := by
  have h8 := w.1.2.2.2.2.1
  intro m
  induction m with
  | zero => intro i _ h; omega
  | succ m ih =>
    intro i hi hm
    rw [fn_X10_roomFor_5.eq_2]
    simp (disch := omega) only [MAt.ck h, MAt.i0 h, MAt.i2 h, MAt.i3 h, MAt.i4 h, MAt.i5 h, MAt.i6 h, MAt.i7 h, MAt.i8 h, MAt.i9 h, MAt.i15 h, MAt.i18 h, MAt.i21 h, MAt.i22 h, MAt.i23 h, MAt.i24 h, MAt.g1 h, MAt.n1 h, MAt.r1 h, MAt.l1 h, MAt.g10 h, MAt.n10 h, MAt.r10 h, MAt.l10 h, MAt.g11 h, MAt.n11 h, MAt.r11 h, MAt.l11 h, MAt.g12 h, MAt.n12 h, MAt.r12 h, MAt.l12 h, MAt.g13 h, MAt.n13 h, MAt.r13 h, MAt.l13 h, MAt.g14 h, MAt.n14 h, MAt.r14 h, MAt.l14 h, MAt.g16 h, MAt.n16 h, MAt.r16 h, MAt.l16 h, MAt.g17 h, MAt.n17 h, MAt.r17 h, MAt.l17 h, MAt.g19 h, MAt.n19 h, MAt.r19 h, MAt.l19 h, MAt.g20 h, MAt.n20 h, MAt.r20 h, MAt.l20 h, MAt.g25 h, MAt.n25 h, MAt.r25 h, MAt.l25 h, MAt.g26 h, MAt.n26 h, MAt.r26 h, MAt.l26 h, MAt.g27 h, MAt.n27 h, MAt.r27 h, MAt.l27 h, MAt.g28 h, MAt.n28 h, MAt.r28 h, MAt.l28 h, obs, b2s, lA, lB, lM, nI_add, pk_mul]
    rw [k.1.2.2.1]
    by_cases he : i = (κ.2 10).length
    · subst he
      rw [if_pos (Int32.le_refl _)]
      rfl
    · rw [if_neg (nI_ge (by omega) (by omega)), rf_missing h k s w ws (b := i) (by omega), b2s]
      simp (disch := omega) only [MAt.ck h, MAt.i0 h, MAt.i2 h, MAt.i3 h, MAt.i4 h, MAt.i5 h, MAt.i6 h, MAt.i7 h, MAt.i8 h, MAt.i9 h, MAt.i15 h, MAt.i18 h, MAt.i21 h, MAt.i22 h, MAt.i23 h, MAt.i24 h, MAt.g1 h, MAt.n1 h, MAt.r1 h, MAt.l1 h, MAt.g10 h, MAt.n10 h, MAt.r10 h, MAt.l10 h, MAt.g11 h, MAt.n11 h, MAt.r11 h, MAt.l11 h, MAt.g12 h, MAt.n12 h, MAt.r12 h, MAt.l12 h, MAt.g13 h, MAt.n13 h, MAt.r13 h, MAt.l13 h, MAt.g14 h, MAt.n14 h, MAt.r14 h, MAt.l14 h, MAt.g16 h, MAt.n16 h, MAt.r16 h, MAt.l16 h, MAt.g17 h, MAt.n17 h, MAt.r17 h, MAt.l17 h, MAt.g19 h, MAt.n19 h, MAt.r19 h, MAt.l19 h, MAt.g20 h, MAt.n20 h, MAt.r20 h, MAt.l20 h, MAt.g25 h, MAt.n25 h, MAt.r25 h, MAt.l25 h, MAt.g26 h, MAt.n26 h, MAt.r26 h, MAt.l26 h, MAt.g27 h, MAt.n27 h, MAt.r27 h, MAt.l27 h, MAt.g28 h, MAt.n28 h, MAt.r28 h, MAt.l28 h, obs, b2s, lA, lB, lM, nI_add, pk_mul]
      rw [(k.2.2.2 i (by omega)).1]
      simp only [fn_X10_roomFor_52, fn_X10_roomFor_50]
      rw [rf_missing h k s w ws (b := i) (by omega), b2s, h.ck, obs, nI_1]
      have step := ih (i + 1) (by omega) (by omega)
      have hr : rmS κ σ t (i + 1) = if (κ.2 10).getD i 0 = t then (if needI κ σ i ≤ 0 then rmS κ σ t i else if rmS κ σ t i < 0 then nI i else if needI κ σ (rmS κ σ t i).toNatClampNeg ≤ needI κ σ i then rmS κ σ t i else nI i) else rmS κ σ t i := rfl
      by_cases e1 : (κ.2 10).getD i 0 = t
      · rw [if_pos e1] at hr ⊢
        by_cases e2 : needI κ σ i ≤ 0
        · rw [if_pos e2] at hr ⊢
          rw [← hr]
          exact step
        · rw [if_neg e2] at hr ⊢
          by_cases e3 : rmS κ σ t i < 0
          · rw [if_pos e3] at hr ⊢
            rw [← hr]
            exact step
          · rw [if_neg e3] at hr ⊢
            rcases rmS_form κ σ t i with q | ⟨j, j1, j2, -⟩
            · exact absurd (by rw [q]; decide) e3
            · rw [j2] at hr ⊢
              rw [nI_clamp (by omega)] at hr
              rw [rf_missing h k s w ws (b := j) (by omega), b2s]
              by_cases e4 : needI κ σ j ≤ needI κ σ i
              · rw [if_pos e4] at hr ⊢
                rw [← hr]
                exact step
              · rw [if_neg e4] at hr ⊢
                rw [← hr]
                exact step
      · rw [if_neg e1] at hr ⊢
        rw [← hr]
        exact step
theorem rf_roomFor (hN : 2 ^ 15 ≤ N) (h : MAt M F A) (k : RelK (A 10) (A 12) (A 13) (A 14) κ) (s : RelS (A 16) σ) (w : WFK κ) (ws : WFS κ σ) (t : Int32) : fn_X10_roomFor N M 389 t = some (rmI κ σ t, M) := by
  have h8 := w.1.2.2.2.2.1
  unfold fn_X10_roomFor
  have := rf_room (N := N) h k s w ws t N 0 (by omega) (by omega)
  rw [nI_0] at this
  exact this
def nlw : Option Nat → Int32
  | some j => nI j
  | none => -1
theorem rf_mov (hN : 2 ^ 15 ≤ N) (h : MAt M F A) (k : RelK (A 10) (A 12) (A 13) (A 14) κ) (s : RelS (A 16) σ) (w : WFK κ) (ws : WFS κ σ) : ∀ (m i : Nat), i ≤ (σ.2 1).length → (σ.2 1).length - i < m → fn_X10_movable_2 N m M 389 (nI i) = some (nlw (nlN κ σ ((σ.2 1).length - i)), M) := by
  have hl := s.2.1.2.1
  intro m
  induction m with
  | zero => intro i _ h; omega
  | succ m ih =>
    intro i hi hm
    rw [fn_X10_movable_2.eq_2]
    simp (disch := omega) only [MAt.ck h, MAt.i0 h, MAt.i2 h, MAt.i3 h, MAt.i4 h, MAt.i5 h, MAt.i6 h, MAt.i7 h, MAt.i8 h, MAt.i9 h, MAt.i15 h, MAt.i18 h, MAt.i21 h, MAt.i22 h, MAt.i23 h, MAt.i24 h, MAt.g1 h, MAt.n1 h, MAt.r1 h, MAt.l1 h, MAt.g10 h, MAt.n10 h, MAt.r10 h, MAt.l10 h, MAt.g11 h, MAt.n11 h, MAt.r11 h, MAt.l11 h, MAt.g12 h, MAt.n12 h, MAt.r12 h, MAt.l12 h, MAt.g13 h, MAt.n13 h, MAt.r13 h, MAt.l13 h, MAt.g14 h, MAt.n14 h, MAt.r14 h, MAt.l14 h, MAt.g16 h, MAt.n16 h, MAt.r16 h, MAt.l16 h, MAt.g17 h, MAt.n17 h, MAt.r17 h, MAt.l17 h, MAt.g19 h, MAt.n19 h, MAt.r19 h, MAt.l19 h, MAt.g20 h, MAt.n20 h, MAt.r20 h, MAt.l20 h, MAt.g25 h, MAt.n25 h, MAt.r25 h, MAt.l25 h, MAt.g26 h, MAt.n26 h, MAt.r26 h, MAt.l26 h, MAt.g27 h, MAt.n27 h, MAt.r27 h, MAt.l27 h, MAt.g28 h, MAt.n28 h, MAt.r28 h, MAt.l28 h, obs, b2s, lA, lB, lM, nI_add, pk_mul]
    rw [s.1.2.2.1]
    by_cases hke : i = (σ.2 1).length
    · subst hke
      rw [if_pos (Int32.le_refl _), Nat.sub_self]
      rfl
    · obtain ⟨r, hr⟩ : ∃ r, (σ.2 1).length - i = r + 1 := ⟨(σ.2 1).length - i - 1, by omega⟩
      rw [if_neg (nI_ge (by omega) (by omega)), rf_roomFor hN h k s w ws, b2s, ih (i + 1) (by omega) (by omega), hr, nlN, show (σ.2 1).length - (r + 1) = i by omega, show (σ.2 1).length - (i + 1) = r by omega, s.2.2.2.2.1 i (by omega)]
      by_cases g : rmI κ σ ((σ.2 1).getD i 0) < 0
      · rw [if_pos g, if_pos g]
      · rw [if_neg g, if_neg g]
        rfl
theorem rf_movable (hN : 2 ^ 15 ≤ N) (h : MAt M F A) (k : RelK (A 10) (A 12) (A 13) (A 14) κ) (s : RelS (A 16) σ) (w : WFK κ) (ws : WFS κ σ) : fn_X10_movable N M 389 = some (nlw (nlI κ σ), M) := by
  have hl := s.2.1.2.1
  unfold fn_X10_movable
  have := rf_mov (N := N) hN h k s w ws N 0 (by omega) (by omega)
  rw [nI_0] at this
  exact this
theorem rf_hb (h : MAt M F A) (k : RelK (A 10) (A 12) (A 13) (A 14) κ) (w : WFK κ) (t : Int32) : ∀ (m i : Nat), i ≤ (κ.2 10).length → (κ.2 10).length - i < m → fn_X10_hasBin_2 N m M 389 t (nI i) = some (if hbN κ t ((κ.2 10).length - i) then 1 else 0, M) := by
  have h8 := w.1.2.2.2.2.1
  intro m
  induction m with
  | zero => intro i _ h; omega
  | succ m ih =>
    intro i hi hm
    rw [fn_X10_hasBin_2.eq_2]
    simp (disch := omega) only [MAt.ck h, MAt.i0 h, MAt.i2 h, MAt.i3 h, MAt.i4 h, MAt.i5 h, MAt.i6 h, MAt.i7 h, MAt.i8 h, MAt.i9 h, MAt.i15 h, MAt.i18 h, MAt.i21 h, MAt.i22 h, MAt.i23 h, MAt.i24 h, MAt.g1 h, MAt.n1 h, MAt.r1 h, MAt.l1 h, MAt.g10 h, MAt.n10 h, MAt.r10 h, MAt.l10 h, MAt.g11 h, MAt.n11 h, MAt.r11 h, MAt.l11 h, MAt.g12 h, MAt.n12 h, MAt.r12 h, MAt.l12 h, MAt.g13 h, MAt.n13 h, MAt.r13 h, MAt.l13 h, MAt.g14 h, MAt.n14 h, MAt.r14 h, MAt.l14 h, MAt.g16 h, MAt.n16 h, MAt.r16 h, MAt.l16 h, MAt.g17 h, MAt.n17 h, MAt.r17 h, MAt.l17 h, MAt.g19 h, MAt.n19 h, MAt.r19 h, MAt.l19 h, MAt.g20 h, MAt.n20 h, MAt.r20 h, MAt.l20 h, MAt.g25 h, MAt.n25 h, MAt.r25 h, MAt.l25 h, MAt.g26 h, MAt.n26 h, MAt.r26 h, MAt.l26 h, MAt.g27 h, MAt.n27 h, MAt.r27 h, MAt.l27 h, MAt.g28 h, MAt.n28 h, MAt.r28 h, MAt.l28 h, obs, b2s, lA, lB, lM, nI_add, pk_mul]
    rw [k.1.2.2.1]
    by_cases hke : i = (κ.2 10).length
    · subst hke
      rw [if_pos (Int32.le_refl _), Nat.sub_self]
      rfl
    · obtain ⟨r, hr⟩ : ∃ r, (κ.2 10).length - i = r + 1 := ⟨(κ.2 10).length - i - 1, by omega⟩
      rw [if_neg (nI_ge (by omega) (by omega)), ih (i + 1) (by omega) (by omega), hr, hbN, show (κ.2 10).length - (r + 1) = i by omega, show (κ.2 10).length - (i + 1) = r by omega]
      rw [(k.2.2.2 i (by omega)).1]
      split <;> rfl
theorem rf_hasBin (hN : 2 ^ 15 ≤ N) (h : MAt M F A) (k : RelK (A 10) (A 12) (A 13) (A 14) κ) (w : WFK κ) (t : Int32) : fn_X10_hasBin N M 389 t = some (if hbI κ t then 1 else 0, M) := by
  have h8 := w.1.2.2.2.2.1
  unfold fn_X10_hasBin
  have := rf_hb (N := N) h k w t N 0 (by omega) (by omega)
  rw [nI_0] at this
  exact this
theorem rf_next (hN : 2 ^ 15 ≤ N) (h : MAt M F A) (k : RelK (A 10) (A 12) (A 13) (A 14) κ) (s : RelS (A 16) σ) (w : WFK κ) (ws : WFS κ σ) : RW M (fn_X10_nextOutcome N M 389) (fun r F' A' => r = nxI κ σ ∧ A' = A ∧ F' 0 = F 0 ∧ F' 2 = F 2 ∧ F' 18 = F 18) := by
  unfold fn_X10_nextOutcome
  have hl := s.2.1.2.1
  have hl0 := s.2.1.1
  simp (disch := omega) only [MAt.ck h, MAt.i0 h, MAt.i2 h, MAt.i3 h, MAt.i4 h, MAt.i5 h, MAt.i6 h, MAt.i7 h, MAt.i8 h, MAt.i9 h, MAt.i15 h, MAt.i18 h, MAt.i21 h, MAt.i22 h, MAt.i23 h, MAt.i24 h, MAt.g1 h, MAt.n1 h, MAt.r1 h, MAt.l1 h, MAt.g10 h, MAt.n10 h, MAt.r10 h, MAt.l10 h, MAt.g11 h, MAt.n11 h, MAt.r11 h, MAt.l11 h, MAt.g12 h, MAt.n12 h, MAt.r12 h, MAt.l12 h, MAt.g13 h, MAt.n13 h, MAt.r13 h, MAt.l13 h, MAt.g14 h, MAt.n14 h, MAt.r14 h, MAt.l14 h, MAt.g16 h, MAt.n16 h, MAt.r16 h, MAt.l16 h, MAt.g17 h, MAt.n17 h, MAt.r17 h, MAt.l17 h, MAt.g19 h, MAt.n19 h, MAt.r19 h, MAt.l19 h, MAt.g20 h, MAt.n20 h, MAt.r20 h, MAt.l20 h, MAt.g25 h, MAt.n25 h, MAt.r25 h, MAt.l25 h, MAt.g26 h, MAt.n26 h, MAt.r26 h, MAt.l26 h, MAt.g27 h, MAt.n27 h, MAt.r27 h, MAt.l27 h, MAt.g28 h, MAt.n28 h, MAt.r28 h, MAt.l28 h, obs, b2s, lA, lB, lM, nI_add, pk_mul]
  rw [s.1.1.2.2.2.1]
  by_cases g : σ.1 3 = 1
  · rw [if_pos g, nxI_jam g]
    exact RW.ret h ⟨rfl, rfl, rfl, rfl, rfl⟩
  · rw [if_neg g, rf_movable hN h k s w ws, b2s]
    rcases hn : nlI κ σ with _ | i
    · rw [nxI_none g hn, if_pos (show nlw none < 0 from by decide)]
      simp (disch := omega) only [MAt.ck h, MAt.i0 h, MAt.i2 h, MAt.i3 h, MAt.i4 h, MAt.i5 h, MAt.i6 h, MAt.i7 h, MAt.i8 h, MAt.i9 h, MAt.i15 h, MAt.i18 h, MAt.i21 h, MAt.i22 h, MAt.i23 h, MAt.i24 h, MAt.g1 h, MAt.n1 h, MAt.r1 h, MAt.l1 h, MAt.g10 h, MAt.n10 h, MAt.r10 h, MAt.l10 h, MAt.g11 h, MAt.n11 h, MAt.r11 h, MAt.l11 h, MAt.g12 h, MAt.n12 h, MAt.r12 h, MAt.l12 h, MAt.g13 h, MAt.n13 h, MAt.r13 h, MAt.l13 h, MAt.g14 h, MAt.n14 h, MAt.r14 h, MAt.l14 h, MAt.g16 h, MAt.n16 h, MAt.r16 h, MAt.l16 h, MAt.g17 h, MAt.n17 h, MAt.r17 h, MAt.l17 h, MAt.g19 h, MAt.n19 h, MAt.r19 h, MAt.l19 h, MAt.g20 h, MAt.n20 h, MAt.r20 h, MAt.l20 h, MAt.g25 h, MAt.n25 h, MAt.r25 h, MAt.l25 h, MAt.g26 h, MAt.n26 h, MAt.r26 h, MAt.l26 h, MAt.g27 h, MAt.n27 h, MAt.r27 h, MAt.l27 h, MAt.g28 h, MAt.n28 h, MAt.r28 h, MAt.l28 h, obs, b2s, lA, lB, lM, nI_add, pk_mul]
      rw [s.1.2.1]
      by_cases h0 : (σ.2 0).length = 0
      · rw [if_pos (by rw [h0]; rfl), if_pos h0]
        exact RW.ret h ⟨rfl, rfl, rfl, rfl, rfl⟩
      · rw [if_neg (nI_ne0 (by omega) (by omega)), if_neg h0]
        have e1 := (s.2.2.2.2.2.2.1 0 (by omega)).1
        have e2 := (s.2.2.2.2.2.2.1 0 (by omega)).2
        simp only [Nat.mul_zero, Nat.add_zero] at e1 e2
        rw [e1, k.1.2.2.2.1]
        by_cases hg : (σ.2 0).getD 0 0 / 10000 ≤ κ.1 0
        · rw [if_pos hg, if_pos hg, show A 16 83 = (σ.2 0).getD 0 0 - (σ.2 0).getD 0 0 / 10000 * 10000 from e2, s.1.1.2.2.1]
          refine RW.call (rf_verdict hN h k w s _ _ _ ws.2.2.2.2.2.2.2.1) ?_
          rintro r M1 F1 A1 h1 ⟨rfl, q⟩
          obtain ⟨rfl, q0, q2, q18, -⟩ := q
          have hv : vdI κ ((σ.2 0).getD 0 0 / 10000 + σ.1 0) ((σ.2 0).getD 0 0 - (σ.2 0).getD 0 0 / 10000 * 10000 + σ.1 1) (σ.1 2) = nvI κ σ ((σ.2 0).getD 0 0) := rfl
          rw [hv]
          generalize nvI κ σ ((σ.2 0).getD 0 0) = v
          by_cases hv1 : v < 21
          · rw [if_pos hv1, if_pos hv1, h1.ck, obs, rf_hasBin hN h1 k w, b2s]
            by_cases hb : hbI κ v = true
            · rw [if_pos hb, if_pos hb, if_neg (by decide), h1.ck, obs, rf_roomFor hN h1 k s w ws, b2s]
              by_cases hr : rmI κ σ v < 0
              · rw [if_pos hr, if_pos hr]
                simp (disch := omega) only [MAt.ck h1, MAt.i0 h1, MAt.i2 h1, MAt.i3 h1, MAt.i4 h1, MAt.i5 h1, MAt.i6 h1, MAt.i7 h1, MAt.i8 h1, MAt.i9 h1, MAt.i15 h1, MAt.i18 h1, MAt.i21 h1, MAt.i22 h1, MAt.i23 h1, MAt.i24 h1, MAt.g1 h1, MAt.n1 h1, MAt.r1 h1, MAt.l1 h1, MAt.g10 h1, MAt.n10 h1, MAt.r10 h1, MAt.l10 h1, MAt.g11 h1, MAt.n11 h1, MAt.r11 h1, MAt.l11 h1, MAt.g12 h1, MAt.n12 h1, MAt.r12 h1, MAt.l12 h1, MAt.g13 h1, MAt.n13 h1, MAt.r13 h1, MAt.l13 h1, MAt.g14 h1, MAt.n14 h1, MAt.r14 h1, MAt.l14 h1, MAt.g16 h1, MAt.n16 h1, MAt.r16 h1, MAt.l16 h1, MAt.g17 h1, MAt.n17 h1, MAt.r17 h1, MAt.l17 h1, MAt.g19 h1, MAt.n19 h1, MAt.r19 h1, MAt.l19 h1, MAt.g20 h1, MAt.n20 h1, MAt.r20 h1, MAt.l20 h1, MAt.g25 h1, MAt.n25 h1, MAt.r25 h1, MAt.l25 h1, MAt.g26 h1, MAt.n26 h1, MAt.r26 h1, MAt.l26 h1, MAt.g27 h1, MAt.n27 h1, MAt.r27 h1, MAt.l27 h1, MAt.g28 h1, MAt.n28 h1, MAt.r28 h1, MAt.l28 h1, obs, b2s, lA, lB, lM, nI_add, pk_mul]
                rw [s.1.2.2.1, k.1.2.2.2.2.1]
                split
                · exact RW.ret h1 ⟨rfl, rfl, q0, q2, q18⟩
                · exact RW.ret h1 ⟨rfl, rfl, q0, q2, q18⟩
              · rw [if_neg hr, if_neg hr]
                exact RW.ret h1 ⟨rfl, rfl, q0, q2, q18⟩
            · rw [if_neg hb, if_neg hb, if_pos rfl]
              exact RW.ret h1 ⟨rfl, rfl, q0, q2, q18⟩
          · rw [if_neg hv1, if_neg hv1]
            exact RW.ret h1 ⟨rfl, rfl, q0, q2, q18⟩
        · rw [if_neg hg, if_neg hg]
          exact RW.ret h ⟨rfl, rfl, rfl, rfl, rfl⟩
    · obtain ⟨k1, k2⟩ := nlN_some _ (Nat.le_refl _) hn
      rw [nxI_some g hn, show nlw (some i) = nI i from rfl, if_neg (nI_pos (by omega))]
      simp (disch := omega) only [MAt.ck h, MAt.i0 h, MAt.i2 h, MAt.i3 h, MAt.i4 h, MAt.i5 h, MAt.i6 h, MAt.i7 h, MAt.i8 h, MAt.i9 h, MAt.i15 h, MAt.i18 h, MAt.i21 h, MAt.i22 h, MAt.i23 h, MAt.i24 h, MAt.g1 h, MAt.n1 h, MAt.r1 h, MAt.l1 h, MAt.g10 h, MAt.n10 h, MAt.r10 h, MAt.l10 h, MAt.g11 h, MAt.n11 h, MAt.r11 h, MAt.l11 h, MAt.g12 h, MAt.n12 h, MAt.r12 h, MAt.l12 h, MAt.g13 h, MAt.n13 h, MAt.r13 h, MAt.l13 h, MAt.g14 h, MAt.n14 h, MAt.r14 h, MAt.l14 h, MAt.g16 h, MAt.n16 h, MAt.r16 h, MAt.l16 h, MAt.g17 h, MAt.n17 h, MAt.r17 h, MAt.l17 h, MAt.g19 h, MAt.n19 h, MAt.r19 h, MAt.l19 h, MAt.g20 h, MAt.n20 h, MAt.r20 h, MAt.l20 h, MAt.g25 h, MAt.n25 h, MAt.r25 h, MAt.l25 h, MAt.g26 h, MAt.n26 h, MAt.r26 h, MAt.l26 h, MAt.g27 h, MAt.n27 h, MAt.r27 h, MAt.l27 h, MAt.g28 h, MAt.n28 h, MAt.r28 h, MAt.l28 h, obs, b2s, lA, lB, lM, nI_add, pk_mul]
      rw [s.2.2.2.2.1 i k1, rf_roomFor hN h k s w ws, b2s]
      exact RW.ret h ⟨rfl, rfl, rfl, rfl, rfl⟩
theorem rf_isStopped (hN : 2 ^ 15 ≤ N) (h : MAt M F A) (k : Rel F A bf κ σ U sn) (w : WF κ σ U sn) : RW M (fn_X10_isStopped N M 389) (fun r F' A' => r = (if nxI κ σ = 30 then 1 else 0) ∧ Qt F A F' A') := by
  unfold fn_X10_isStopped
  refine RW.pF h fun M1 h1 => ?_
  rw [h1.ck, obs]
  refine RW.call (rf_next hN h1 k.2.1 k.2.2.1 w.1 w.2.1) ?_
  rintro r M2 F2 A2 h2 ⟨rfl, rfl, q0, q2, q18⟩
  have hq : Qt F A2 F2 A2 := ⟨q2, q18, rfl, rfl, rfl, rfl, rfl, rfl, rfl, rfl, rfl⟩
  split
  · exact RW.ret h2 ⟨rfl, hq⟩
  · exact RW.ret h2 ⟨rfl, hq⟩
theorem rf_binFor (hN : 2 ^ 15 ≤ N) (h : MAt M F A) (k : Rel F A bf κ σ U sn) (w : WF κ σ U sn) (x : Int32) : RW M (fn_X10_binFor N M 389 x) (fun r F' A' => r = (if hasI (κ.2 0).length x then rmI κ σ x else -1) ∧ Qt F A F' A') := by
  unfold fn_X10_binFor
  rw [h.ck, obs, rf_isType h k.2.1 w.1, b2s]
  by_cases hx : hasI (κ.2 0).length x = true
  · simp only [if_pos hx]
    rw [if_neg (by decide), h.ck, obs, rf_roomFor hN h k.2.1 k.2.2.1 w.1 w.2.1, b2s, h.ck, obs]
    refine RW.call (rf_told h _) ?_
    rintro r M' F' A' h' ⟨rfl, rfl, rfl⟩
    exact RW.ret h' ⟨rfl, Qt.u0⟩
  · simp only [if_neg hx]
    rw [if_pos trivial, h.ck, obs]
    refine RW.call (rf_told h _) ?_
    rintro r M' F' A' h' ⟨rfl, rfl, rfl⟩
    exact RW.ret h' ⟨rfl, Qt.u0⟩
end RM
