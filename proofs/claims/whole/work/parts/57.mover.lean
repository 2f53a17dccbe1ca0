/-! PURE: a step: the state stays one; run in the class; the reference's side -/
theorem getD_erase {l : List Int32} {k i : Nat} (hk : k < l.length) (hi : i < (l.eraseIdx k).length) : (l.eraseIdx k).getD i 0 = l.getD (if i < k then i else i + 1) 0 ∧ (if i < k then i else i + 1) < l.length := by
  rw [List.length_eraseIdx, if_pos hk] at hi
  refine ⟨?_, by split <;> omega⟩
  simp only [List.getD_eq_getElem?_getD, List.getElem?_eraseIdx]
  split <;> rfl
theorem WFS.m1 {κ : Cf} {σ : St} {o : Int32} (w : WFK κ) (ws : WFS κ σ) (ho : StepK κ σ o) : WFS κ (mv1 κ σ o) ∧ ((mv1 κ σ o).1 = σ.1 ∧ (mv1 κ σ o).2 2 = σ.2 2 ∧ (mv1 κ σ o).2 3 = σ.2 3) := by
  have h8 := w.1.2.2.2.2.1
  obtain ⟨w1, w2, w3, w4, w5, w6, w7, w8, w9, w10, w11, w12⟩ := ws
  rcases ho with ⟨k, b, hn, k1, b1, rfl, -⟩ | ⟨hn, h0, ho⟩
  · rw [mv1_some hn]
    refine ⟨⟨w1, w2, fun i hi => ?_, w4, w5, w6, w7, w8, w9, w10, w11, w12⟩, rfl, rfl, rfl⟩
    have hi' : i < ((σ.2 1).eraseIdx k).length := hi
    obtain ⟨e1, e2⟩ := getD_erase k1 hi'
    show ∃ t, _ ∧ ((σ.2 1).eraseIdx k).getD i 0 = nI t
    rw [e1]
    exact w3 _ e2
  · have hop : ∀ i, i < ((σ.2 0).eraseIdx 0).length → ∃ d a, 1 ≤ d ∧ d ≤ 4000 ∧ a ≤ 9999 ∧ ((σ.2 0).eraseIdx 0).getD i 0 = nI (d * 10000 + a) := by
      intro i hi
      obtain ⟨e1, e2⟩ := getD_erase h0 hi
      rw [e1]
      exact w11 _ e2
    by_cases hne : o = 20
    · subst hne
      rw [mv1_20 hn]
      refine ⟨⟨w1, w2, fun i hi => ?_, w4, w5, w6, w7, w8, w9, w10, hop, w12⟩, rfl, rfl, rfl⟩
      have hi' : i < (σ.2 1 ++ [nvI κ σ ((σ.2 0).getD 0 0)]).length := hi
      show ∃ t, _ ∧ (σ.2 1 ++ [nvI κ σ ((σ.2 0).getD 0 0)]).getD i 0 = nI t
      rw [List.length_append] at hi'
      have hi2 : i < (σ.2 1).length + 1 := hi'
      by_cases he : i = (σ.2 1).length
      · rw [getD_app1 he]
        rcases ho with ⟨b, b1, b2, -⟩ | ⟨j, j1, j2⟩ | q | ⟨-, -, t, t1, t2⟩
        · exact absurd b2.symm (nI_n24 (show b < 20 by omega)).2.2.2.1
        · have := (nI_eq (a := 20) (b := 21 + j) (by omega) (by omega)).mp j2; omega
        · exact absurd q (by decide)
        · exact ⟨t, t1, t2⟩
      · rw [getD_app (by omega)]
        exact w3 i (by omega)
    · rw [mv1_no hn hne]
      exact ⟨⟨w1, w2, w3, w4, w5, w6, w7, w8, w9, w10, hop, w12⟩, rfl, rfl, rfl⟩
theorem WFS.m2 {κ : Cf} {σ : St} {o : Int32} (w : WFK κ) (ws : WFS κ σ) (l3 : (σ.2 3).length = 4) (ho : (∃ b, b < (κ.2 10).length ∧ o = nI b ∧ ¬ needI κ σ b ≤ 0) ∨ (∃ j, j < 3 ∧ o = nI (21 + j)) ∨ o = 24 ∨ o = 20) : WFS κ (mv2 σ o) ∧ ((mv2 σ o).2 3).length = 4 := by
  have h8 := w.1.2.2.2.2.1
  obtain ⟨w1, w2, w3, w4, w5, w6, w7, w8, w9, w10, w11, w12⟩ := ws
  rcases ho with ⟨b, hb, rfl, hnd⟩ | ⟨j, hj, rfl⟩ | rfl | rfl
  · rw [mv2_b (by omega)]
    refine ⟨⟨?_, fun i hi => ?_, w3, w4, w5, w6, w7, w8, w9, w10, w11, w12⟩, l3⟩
    · show ((σ.2 2).set b ((σ.2 2).getD b 0 + 1)).length = _
      rw [List.length_set]; exact w1
    · show ∃ n z, ((σ.2 2).set b ((σ.2 2).getD b 0 + 1)).getD i 0 = nI n ∧ _
      by_cases he : i = b
      · subst he
        obtain ⟨n, z, e1, e2, e3, e4⟩ := w2 i hi
        unfold needI at hnd
        rw [e2, e1] at hnd
        have hlt : n < z := by
          by_cases q : n < z
          · exact q
          · exfalso
            have : n = z := by omega
            subst this
            exact hnd (by rw [Int32.sub_self]; exact Int32.le_refl _)
        have hi2 : i < (σ.2 2).length := by omega
        refine ⟨n + 1, z, ?_, e2, by omega, e4⟩
        rw [e1, nI_1]
        simp [hi2]
      · have : ((σ.2 2).set b ((σ.2 2).getD b 0 + 1)).getD i 0 = (σ.2 2).getD i 0 := by
          simp [List.getD_eq_getElem?_getD, List.getElem?_set_ne (Ne.symm he)]
        rw [this]
        exact w2 i hi
  · rw [mv2_r hj]
    exact ⟨⟨w1, w2, w3, w4, w5, w6, w7, w8, w9, w10, w11, w12⟩, by show ((σ.2 3).set j _).length = 4; rw [List.length_set]; exact l3⟩
  · rw [mv2_24]
    exact ⟨⟨w1, w2, w3, w4, w5, w6, Or.inr rfl, w8, w9, w10, w11, w12⟩, l3⟩
  · rw [mv2_20]
    exact ⟨⟨w1, w2, w3, w4, w5, w6, w7, w8, w9, w10, w11, w12⟩, l3⟩
theorem StepK.o2 {κ : Cf} {σ : St} {o : Int32} (ho : StepK κ σ o) : (∃ b, b < (κ.2 10).length ∧ o = nI b ∧ ¬ needI κ σ b ≤ 0) ∨ (∃ j, j < 3 ∧ o = nI (21 + j)) ∨ o = 24 ∨ o = 20 := by
  rcases ho with ⟨k, b, -, -, b1, b2, b3⟩ | ⟨-, -, q⟩
  · exact Or.inl ⟨b, b1, b2, b3⟩
  · rcases q with q | q | q | q
    · exact Or.inl q
    · exact Or.inr (Or.inl q)
    · exact Or.inr (Or.inr (Or.inl q))
    · exact Or.inr (Or.inr (Or.inr q.1))
theorem WFS.mv {κ : Cf} {σ : St} {o : Int32} (w : WFK κ) (ws : WFS κ σ) (l3 : (σ.2 3).length = 4) (ho : StepK κ σ o) : WFS κ (mvI κ σ o) ∧ ((mvI κ σ o).2 3).length = 4 := by
  obtain ⟨a1, a2, a3, a4⟩ := ws.m1 w ho
  have hn : ∀ b, needI κ (mv1 κ σ o) b = needI κ σ b := fun b => by unfold needI; rw [a3]
  obtain ⟨b1, b2⟩ := a1.m2 w (by rw [a4]; exact l3) (o := o) (by simp only [hn]; exact ho.o2)
  obtain ⟨w1, w2, w3, w4, w5, w6, w7, w8, w9, w10, w11, w12⟩ := b1
  exact ⟨⟨w1, w2, w3, w4, w5, w6, w7, w8, w9, w10, w11, w12⟩, b2⟩
def rnS (κ : Cf) : Nat → St → Nat × St
  | 0, σ => (0, σ)
  | n + 1, σ => if nxI κ σ = -2 ∨ nxI κ σ = 30 then (0, σ) else ((rnS κ n (mvI κ σ (nxI κ σ))).1 + 1, (rnS κ n (mvI κ σ (nxI κ σ))).2)
def rnI (κ : Cf) (σ : St) (U : List St) (x : Int32) : Oc := if 1 ≤ x ∧ x ≤ 100 then (nI (rnS κ x.toNatClampNeg σ).1, (rnS κ x.toNatClampNeg σ).2, if (rnS κ x.toNatClampNeg σ).1 = 0 then U else pushU σ U) else (-1, σ, U)
section XQ
variable {N : Nat} {bf : List Int32} {κ : Cf} {sn : Nat → Option St}
theorem x_run1 (hN : 2 ^ 15 ≤ N) (w : WFK κ) (n : Nat) (hn : n ≤ 100) : ∀ (m d : Nat) (M : Mem) (σ : St) (U : List St), XAt M bf κ σ U sn → WFS κ σ → (σ.2 3).length = 4 → 1 ≤ d → d ≤ n → n - d < m → XO bf κ sn M (fn_X9_run_15 N m M 0 (nI n) (nI d)) (nI (d + (rnS κ (n - d) σ).1), (rnS κ (n - d) σ).2, U) := by
  intro m
  induction m with
  | zero => intro d M σ U _ _ _ _ _ h; omega
  | succ m ih =>
    intro d M σ U h ws l3 h1 hd hm
    rw [fn_X9_run_15.eq_2]
    by_cases he : d = n
    · subst he
      rw [if_pos (Int32.le_refl _), Nat.sub_self]
      exact XO.ret h rfl
    · rw [if_neg (nI_ge (by omega) (by omega))]
      obtain ⟨r, hr⟩ : ∃ r, n - d = r + 1 := ⟨n - d - 1, by omega⟩
      obtain ⟨M1, e1, h1', f1⟩ := x_nextOutcome (N := N) h hN w ws
      rw [h.ck, obs, e1, b2s, hr, rnS]
      refine XO.fr (f1.mono (by omega) (by omega)) ?_
      by_cases g : nxI κ σ = -2 ∨ nxI κ σ = 30
      · have e : unst (nxI κ σ) = -2 := by
          unfold unst
          rcases g with g | g
          · rw [g]; decide
          · rw [if_pos g]
        rw [if_pos g, e, if_pos rfl]
        exact XO.ret h1' rfl
      · have g2 : ¬ nxI κ σ = -2 := fun q => g (Or.inl q)
        have g30 : ¬ nxI κ σ = 30 := fun q => g (Or.inr q)
        have e : unst (nxI κ σ) = nxI κ σ := by unfold unst; rw [if_neg g30]
        rw [if_neg g, e, if_neg g2, if_neg (nI_ne0 (by omega) (by omega))]
        unfold fn_X9_run_48
        obtain ⟨M2, e2, h2, f2⟩ := x_move (N := N) h1' hN w ws l3 (nx_step w g2 g30)
        rw [h1'.ck, obs, e2, b2s, nI_1]
        refine XO.fr f2 ?_
        obtain ⟨ws', l3'⟩ := ws.mv w l3 (nx_step w g2 g30)
        have := ih (d + 1) M2 _ U h2 ws' l3' (by omega) (by omega) (by omega)
        rw [show n - (d + 1) = r by omega] at this
        rw [show d + ((rnS κ r (mvI κ σ (nxI κ σ))).1 + 1) = d + 1 + (rnS κ r (mvI κ σ (nxI κ σ))).1 by omega]
        exact this
theorem x_run {M : Mem} {σ : St} {U : List St} (h : XAt M bf κ σ U sn) (hN : 2 ^ 15 ≤ N) (w : WFK κ) (ws : WFS κ σ) (l3 : (σ.2 3).length = 4) (x : Int32) : XO bf κ sn M (fn_X9_run N M 0 x) (rnI κ σ U x) := by
  unfold fn_X9_run rnI
  by_cases g : 1 ≤ x ∧ x ≤ 100
  · rw [if_neg (Int32.not_lt.mpr g.1), if_pos g.2, if_pos g]
    obtain ⟨n, n1, rfl⟩ := nI_of2 (x := x) (M := 100) (n := 100) rfl (by intro q; have := Int32.lt_iff_toInt_lt.mp q; have h1 := Int32.le_iff_toInt_le.mp g.1; rw [show (1 : Int32).toInt = 1 from rfl] at h1; rw [show (0 : Int32).toInt = 0 from rfl] at this; omega) g.2
    have n2 : 1 ≤ n := by
      have := (lLe (m := 1) (n := n) (by decide) (by omega)).mp g.1
      exact this
    rw [nI_clamp (by omega)]
    obtain ⟨r, hr⟩ : ∃ r, n = r + 1 := ⟨n - 1, by omega⟩
    obtain ⟨K, hK⟩ : ∃ K, N = K + 1 := ⟨N - 1, by omega⟩
    have hgo : fn_X9_run_15 N N M 0 (nI n) 0 = fn_X9_run_15 N (K + 1) M 0 (nI n) 0 := by rw [← hK]
    rw [hgo, fn_X9_run_15.eq_2, if_neg (nI_nle (by omega) (by omega))]
    obtain ⟨M1, e1, h1', f1⟩ := x_nextOutcome (N := N) h hN w ws
    rw [h.ck, obs, e1, b2s, hr, rnS]
    refine XO.fr (f1.mono (by omega) (by omega)) ?_
    by_cases g : nxI κ σ = -2 ∨ nxI κ σ = 30
    · have e : unst (nxI κ σ) = -2 := by
        unfold unst
        rcases g with g | g
        · rw [g]; decide
        · rw [if_pos g]
      rw [if_pos g, e, if_pos rfl]
      exact XO.ret h1' rfl
    · have g2 : ¬ nxI κ σ = -2 := fun q => g (Or.inl q)
      have g30 : ¬ nxI κ σ = 30 := fun q => g (Or.inr q)
      have e : unst (nxI κ σ) = nxI κ σ := by unfold unst; rw [if_neg g30]
      rw [if_neg g, e, if_neg g2, if_pos rfl]
      refine XO.push h1' fun M3 h3 => ?_
      unfold fn_X9_run_48
      obtain ⟨M2, e2, h2, f2⟩ := x_move (N := N) h3 hN w ws l3 (nx_step w g2 g30)
      rw [h3.ck, obs, e2, b2s]
      refine XO.fr f2 ?_
      obtain ⟨ws', l3'⟩ := ws.mv w l3 (nx_step w g2 g30)
      have := x_run1 (N := N) hN w (r + 1) (by omega) K 1 M2 _ (pushU σ U) h2 ws' l3' (by omega) (by omega) (by omega)
      rw [show r + 1 - 1 = r by omega] at this
      rw [if_neg (by omega), show (rnS κ r (mvI κ σ (nxI κ σ))).1 + 1 = 1 + (rnS κ r (mvI κ σ (nxI κ σ))).1 by omega]
      exact this
  · rw [if_neg g]
    by_cases g1 : x < 1
    · rw [if_pos g1]
      exact XO.ret h rfl
    · rw [if_neg g1, if_neg (fun q => g ⟨Int32.not_lt.mp g1, q⟩)]
      exact XO.ret h rfl
end XQ
section RP
variable {N : Nat} {F : Nat → Int32} {A : Nat → Nat → Int32} {κ : Cf}
theorem rf_tH (n : Nat) (hn : n < 60) : ∀ (m i : Nat) (M : Mem) (S : Nat → Int32), MAt M F (va_up A 16 S) → S 3 = nI n → i ≤ 2 * n → 2 * n - i < m → RW M (fn_X10_takeFromHopper_12 N m M 389 (nI i)) (fun _ F' A' => F' = F ∧ ∃ S', A' = va_up A 16 S' ∧ (∀ q, i ≤ q → q < 2 * n → S' (82 + q) = S (82 + q + 2)) ∧ ∀ q, ¬ (82 + i ≤ q ∧ q < 82 + 2 * n) → S' q = S q) := by
  intro m
  induction m with
  | zero => intro i M S _ _ _ h; omega
  | succ m ih =>
    intro i M S h h3 hi hm
    rw [fn_X10_takeFromHopper_12.eq_2]
    simp (disch := omega) only [MAt.ck h, MAt.i0 h, MAt.i2 h, MAt.i3 h, MAt.i4 h, MAt.i5 h, MAt.i6 h, MAt.i7 h, MAt.i8 h, MAt.i9 h, MAt.i15 h, MAt.i18 h, MAt.i21 h, MAt.i22 h, MAt.i23 h, MAt.i24 h, MAt.g1 h, MAt.n1 h, MAt.r1 h, MAt.l1 h, MAt.g10 h, MAt.n10 h, MAt.r10 h, MAt.l10 h, MAt.g11 h, MAt.n11 h, MAt.r11 h, MAt.l11 h, MAt.g12 h, MAt.n12 h, MAt.r12 h, MAt.l12 h, MAt.g13 h, MAt.n13 h, MAt.r13 h, MAt.l13 h, MAt.g14 h, MAt.n14 h, MAt.r14 h, MAt.l14 h, MAt.g16 h, MAt.n16 h, MAt.r16 h, MAt.l16 h, MAt.g17 h, MAt.n17 h, MAt.r17 h, MAt.l17 h, MAt.g19 h, MAt.n19 h, MAt.r19 h, MAt.l19 h, MAt.g20 h, MAt.n20 h, MAt.r20 h, MAt.l20 h, MAt.g25 h, MAt.n25 h, MAt.r25 h, MAt.l25 h, MAt.g26 h, MAt.n26 h, MAt.r26 h, MAt.l26 h, MAt.g27 h, MAt.n27 h, MAt.r27 h, MAt.l27 h, MAt.g28 h, MAt.n28 h, MAt.r28 h, MAt.l28 h, obs, b2s, lA, lB, lM, nI_add, pk_mul, v1616, v1610, v1612, v1613, v1614, v1617, v1627, v1716, v1710, v1712, v1713, v1714, v1727]
    rw [h3, lM]
    have hc := nI_leI (a := 2 * n) (b := i) (by omega) (by omega)
    by_cases he : 2 * n ≤ i
    · rw [if_pos (hc.mpr he)]
      exact RW.ret h ⟨rfl, S, rfl, fun q h1 h2 => by omega, fun q _ => rfl⟩
    · rw [if_neg (fun q => he (hc.mp q))]
      refine RW.s16 h (by omega) fun M1 h1 => ?_
      refine (ih (i + 1) M1 _ h1 (by rw [pk_un (by omega)]; exact h3) (by omega) (by omega)).imp ?_
      rintro r F' A' ⟨q0, S', q1, q2, q3⟩
      refine ⟨q0, S', q1, fun q h1 h2 => ?_, fun q hq => ?_⟩
      · by_cases hqi : q = i
        · subst hqi
          rw [q3 _ (by omega), pk_us]
        · rw [q2 q (by omega) h2, pk_un (by omega)]
      · rw [q3 q (by omega), pk_un (by omega)]
theorem rf_takeFromHopper (hN : 2 ^ 15 ≤ N) {M : Mem} {S : Nat → Int32} {σ : St} (h : MAt M F (va_up A 16 S)) (hs : RelS S σ) (h0 : 0 < (σ.2 0).length) : RW M (fn_X10_takeFromHopper N M 389) (fun _ F' A' => F' = F ∧ ∃ S', A' = va_up A 16 S' ∧ RelS S' (σ.1, va_up σ.2 0 ((σ.2 0).eraseIdx 0))) := by
  unfold fn_X10_takeFromHopper
  have hl := hs.2.1.1
  simp (disch := omega) only [MAt.ck h, MAt.i0 h, MAt.i2 h, MAt.i3 h, MAt.i4 h, MAt.i5 h, MAt.i6 h, MAt.i7 h, MAt.i8 h, MAt.i9 h, MAt.i15 h, MAt.i18 h, MAt.i21 h, MAt.i22 h, MAt.i23 h, MAt.i24 h, MAt.g1 h, MAt.n1 h, MAt.r1 h, MAt.l1 h, MAt.g10 h, MAt.n10 h, MAt.r10 h, MAt.l10 h, MAt.g11 h, MAt.n11 h, MAt.r11 h, MAt.l11 h, MAt.g12 h, MAt.n12 h, MAt.r12 h, MAt.l12 h, MAt.g13 h, MAt.n13 h, MAt.r13 h, MAt.l13 h, MAt.g14 h, MAt.n14 h, MAt.r14 h, MAt.l14 h, MAt.g16 h, MAt.n16 h, MAt.r16 h, MAt.l16 h, MAt.g17 h, MAt.n17 h, MAt.r17 h, MAt.l17 h, MAt.g19 h, MAt.n19 h, MAt.r19 h, MAt.l19 h, MAt.g20 h, MAt.n20 h, MAt.r20 h, MAt.l20 h, MAt.g25 h, MAt.n25 h, MAt.r25 h, MAt.l25 h, MAt.g26 h, MAt.n26 h, MAt.r26 h, MAt.l26 h, MAt.g27 h, MAt.n27 h, MAt.r27 h, MAt.l27 h, MAt.g28 h, MAt.n28 h, MAt.r28 h, MAt.l28 h, obs, b2s, lA, lB, lM, nI_add, pk_mul, v1616, v1610, v1612, v1613, v1614, v1617, v1627, v1716, v1710, v1712, v1713, v1714, v1727]
  rw [hs.1.2.1, lS (by omega)]
  refine RW.s16 (j := 3) h (by omega) fun M1 h1 => ?_
  have := rf_tH (N := N) (F := F) (A := A) ((σ.2 0).length - 1) (by omega) N 0 M1 _ h1 pk_us (by omega) (by omega)
  rw [nI_0] at this
  refine this.imp ?_
  rintro r F' A' ⟨q0, S', q1, q2, q3⟩
  have hlen : ((σ.2 0).eraseIdx 0).length = (σ.2 0).length - 1 := by rw [List.length_eraseIdx, if_pos h0]
  refine ⟨q0, S', q1, hs.hop (fun q hq hq2 => ?_) ?_ (by omega) (fun i hi => ?_)⟩
  · rw [q3 q (by omega), pk_un (by omega)]
  · rw [q3 3 (by omega), pk_us, hlen]
  · obtain ⟨e1, e2⟩ := getD_erase h0 hi
    rw [e1, if_neg (by omega), q2 (2 * i) (by omega) (by omega), show 82 + 2 * i + 1 = 82 + (2 * i + 1) by omega, q2 (2 * i + 1) (by omega) (by omega), pk_un (by omega), pk_un (by omega)]
    have := hs.2.2.2.2.2.2.1 (i + 1) (by omega)
    rw [show 82 + 2 * i + 2 = 82 + 2 * (i + 1) by omega, show 82 + (2 * i + 1) + 2 = 82 + 2 * (i + 1) + 1 by omega]
    exact this
theorem rf_tL (n : Nat) (hn : n < 20) : ∀ (m i : Nat) (M : Mem) (S : Nat → Int32), MAt M F (va_up A 16 S) → S 4 = nI n → i ≤ n → n - i < m → RW M (fn_X10_takeFromLoop_12 N m M 389 (nI i)) (fun _ F' A' => F' = F ∧ ∃ S', A' = va_up A 16 S' ∧ (∀ q, i ≤ q → q < n → S' (22 + q) = S (22 + q + 1)) ∧ ∀ q, ¬ (22 + i ≤ q ∧ q < 22 + n) → S' q = S q) := by
  intro m
  induction m with
  | zero => intro i M S _ _ _ h; omega
  | succ m ih =>
    intro i M S h h3 hi hm
    rw [fn_X10_takeFromLoop_12.eq_2]
    simp (disch := omega) only [MAt.ck h, MAt.i0 h, MAt.i2 h, MAt.i3 h, MAt.i4 h, MAt.i5 h, MAt.i6 h, MAt.i7 h, MAt.i8 h, MAt.i9 h, MAt.i15 h, MAt.i18 h, MAt.i21 h, MAt.i22 h, MAt.i23 h, MAt.i24 h, MAt.g1 h, MAt.n1 h, MAt.r1 h, MAt.l1 h, MAt.g10 h, MAt.n10 h, MAt.r10 h, MAt.l10 h, MAt.g11 h, MAt.n11 h, MAt.r11 h, MAt.l11 h, MAt.g12 h, MAt.n12 h, MAt.r12 h, MAt.l12 h, MAt.g13 h, MAt.n13 h, MAt.r13 h, MAt.l13 h, MAt.g14 h, MAt.n14 h, MAt.r14 h, MAt.l14 h, MAt.g16 h, MAt.n16 h, MAt.r16 h, MAt.l16 h, MAt.g17 h, MAt.n17 h, MAt.r17 h, MAt.l17 h, MAt.g19 h, MAt.n19 h, MAt.r19 h, MAt.l19 h, MAt.g20 h, MAt.n20 h, MAt.r20 h, MAt.l20 h, MAt.g25 h, MAt.n25 h, MAt.r25 h, MAt.l25 h, MAt.g26 h, MAt.n26 h, MAt.r26 h, MAt.l26 h, MAt.g27 h, MAt.n27 h, MAt.r27 h, MAt.l27 h, MAt.g28 h, MAt.n28 h, MAt.r28 h, MAt.l28 h, obs, b2s, lA, lB, lM, nI_add, pk_mul, v1616, v1610, v1612, v1613, v1614, v1617, v1627, v1716, v1710, v1712, v1713, v1714, v1727]
    rw [h3]
    have hc := nI_leI (a := n) (b := i) (by omega) (by omega)
    by_cases he : n ≤ i
    · rw [if_pos (hc.mpr he)]
      exact RW.ret h ⟨rfl, S, rfl, fun q h1 h2 => by omega, fun q _ => rfl⟩
    · rw [if_neg (fun q => he (hc.mp q))]
      refine RW.s16 h (by omega) fun M1 h1 => ?_
      refine (ih (i + 1) M1 _ h1 (by rw [pk_un (by omega)]; exact h3) (by omega) (by omega)).imp ?_
      rintro r F' A' ⟨q0, S', q1, q2, q3⟩
      refine ⟨q0, S', q1, fun q h1 h2 => ?_, fun q hq => ?_⟩
      · by_cases hqi : q = i
        · subst hqi
          rw [q3 _ (by omega), pk_us]
        · rw [q2 q (by omega) h2, pk_un (by omega)]
      · rw [q3 q (by omega), pk_un (by omega)]
theorem rf_takeFromLoop (hN : 2 ^ 15 ≤ N) {M : Mem} {S : Nat → Int32} {σ : St} {k : Nat} (h : MAt M F (va_up A 16 S)) (hs : RelS S σ) (h0 : k < (σ.2 1).length) : RW M (fn_X10_takeFromLoop N M 389 (nI k)) (fun _ F' A' => F' = F ∧ ∃ S', A' = va_up A 16 S' ∧ RelS S' (σ.1, va_up σ.2 1 ((σ.2 1).eraseIdx k))) := by
  unfold fn_X10_takeFromLoop
  have hl := hs.2.1.2.1
  simp (disch := omega) only [MAt.ck h, MAt.i0 h, MAt.i2 h, MAt.i3 h, MAt.i4 h, MAt.i5 h, MAt.i6 h, MAt.i7 h, MAt.i8 h, MAt.i9 h, MAt.i15 h, MAt.i18 h, MAt.i21 h, MAt.i22 h, MAt.i23 h, MAt.i24 h, MAt.g1 h, MAt.n1 h, MAt.r1 h, MAt.l1 h, MAt.g10 h, MAt.n10 h, MAt.r10 h, MAt.l10 h, MAt.g11 h, MAt.n11 h, MAt.r11 h, MAt.l11 h, MAt.g12 h, MAt.n12 h, MAt.r12 h, MAt.l12 h, MAt.g13 h, MAt.n13 h, MAt.r13 h, MAt.l13 h, MAt.g14 h, MAt.n14 h, MAt.r14 h, MAt.l14 h, MAt.g16 h, MAt.n16 h, MAt.r16 h, MAt.l16 h, MAt.g17 h, MAt.n17 h, MAt.r17 h, MAt.l17 h, MAt.g19 h, MAt.n19 h, MAt.r19 h, MAt.l19 h, MAt.g20 h, MAt.n20 h, MAt.r20 h, MAt.l20 h, MAt.g25 h, MAt.n25 h, MAt.r25 h, MAt.l25 h, MAt.g26 h, MAt.n26 h, MAt.r26 h, MAt.l26 h, MAt.g27 h, MAt.n27 h, MAt.r27 h, MAt.l27 h, MAt.g28 h, MAt.n28 h, MAt.r28 h, MAt.l28 h, obs, b2s, lA, lB, lM, nI_add, pk_mul, v1616, v1610, v1612, v1613, v1614, v1617, v1627, v1716, v1710, v1712, v1713, v1714, v1727]
  rw [hs.1.2.2.1, lS (by omega)]
  refine RW.s16 (j := 4) h (by omega) fun M1 h1 => ?_
  refine (rf_tL (N := N) (F := F) (A := A) ((σ.2 1).length - 1) (by omega) N k M1 _ h1 pk_us (by omega) (by omega)).imp ?_
  rintro r F' A' ⟨q0, S', q1, q2, q3⟩
  have hlen : ((σ.2 1).eraseIdx k).length = (σ.2 1).length - 1 := by rw [List.length_eraseIdx, if_pos h0]
  refine ⟨q0, S', q1, hs.lop (fun q hq hq2 => ?_) ?_ (by omega) (fun i hi => ?_)⟩
  · rw [q3 q (by omega), pk_un (by omega)]
  · rw [q3 4 (by omega), pk_us, hlen]
  · obtain ⟨e1, e2⟩ := getD_erase h0 hi
    rw [e1]
    by_cases hik : i < k
    · rw [if_pos hik, q3 _ (by omega), pk_un (by omega)]
      exact hs.2.2.2.2.1 i (by omega)
    · rw [if_neg hik, q2 i (by omega) (by omega), pk_un (by omega)]
      exact hs.2.2.2.2.1 (i + 1) (by omega)
theorem rf_note57 {M : Mem} {S : Nat → Int32} {n : Nat} (h : MAt M F (va_up A 16 S)) (h7 : S 7 = nI n) (hn : n < 40) (o : Int32) : RW M (fn_X10_note_57 N M 389 o) (fun _ F' A' => F' = F ∧ A' = va_up A 16 (upd (upd (upd S (42 + n) o) 7 (nI (n + 1))) 6 (S 6 + 1))) := by
  unfold fn_X10_note_57
  simp (disch := omega) only [MAt.ck h, MAt.i0 h, MAt.i2 h, MAt.i3 h, MAt.i4 h, MAt.i5 h, MAt.i6 h, MAt.i7 h, MAt.i8 h, MAt.i9 h, MAt.i15 h, MAt.i18 h, MAt.i21 h, MAt.i22 h, MAt.i23 h, MAt.i24 h, MAt.g1 h, MAt.n1 h, MAt.r1 h, MAt.l1 h, MAt.g10 h, MAt.n10 h, MAt.r10 h, MAt.l10 h, MAt.g11 h, MAt.n11 h, MAt.r11 h, MAt.l11 h, MAt.g12 h, MAt.n12 h, MAt.r12 h, MAt.l12 h, MAt.g13 h, MAt.n13 h, MAt.r13 h, MAt.l13 h, MAt.g14 h, MAt.n14 h, MAt.r14 h, MAt.l14 h, MAt.g16 h, MAt.n16 h, MAt.r16 h, MAt.l16 h, MAt.g17 h, MAt.n17 h, MAt.r17 h, MAt.l17 h, MAt.g19 h, MAt.n19 h, MAt.r19 h, MAt.l19 h, MAt.g20 h, MAt.n20 h, MAt.r20 h, MAt.l20 h, MAt.g25 h, MAt.n25 h, MAt.r25 h, MAt.l25 h, MAt.g26 h, MAt.n26 h, MAt.r26 h, MAt.l26 h, MAt.g27 h, MAt.n27 h, MAt.r27 h, MAt.l27 h, MAt.g28 h, MAt.n28 h, MAt.r28 h, MAt.l28 h, obs, b2s, lA, lB, lM, nI_add, pk_mul, v1616, v1610, v1612, v1613, v1614, v1617, v1627, v1716, v1710, v1712, v1713, v1714, v1727]
  rw [h7]
  simp (disch := omega) only [MAt.ck h, MAt.i0 h, MAt.i2 h, MAt.i3 h, MAt.i4 h, MAt.i5 h, MAt.i6 h, MAt.i7 h, MAt.i8 h, MAt.i9 h, MAt.i15 h, MAt.i18 h, MAt.i21 h, MAt.i22 h, MAt.i23 h, MAt.i24 h, MAt.g1 h, MAt.n1 h, MAt.r1 h, MAt.l1 h, MAt.g10 h, MAt.n10 h, MAt.r10 h, MAt.l10 h, MAt.g11 h, MAt.n11 h, MAt.r11 h, MAt.l11 h, MAt.g12 h, MAt.n12 h, MAt.r12 h, MAt.l12 h, MAt.g13 h, MAt.n13 h, MAt.r13 h, MAt.l13 h, MAt.g14 h, MAt.n14 h, MAt.r14 h, MAt.l14 h, MAt.g16 h, MAt.n16 h, MAt.r16 h, MAt.l16 h, MAt.g17 h, MAt.n17 h, MAt.r17 h, MAt.l17 h, MAt.g19 h, MAt.n19 h, MAt.r19 h, MAt.l19 h, MAt.g20 h, MAt.n20 h, MAt.r20 h, MAt.l20 h, MAt.g25 h, MAt.n25 h, MAt.r25 h, MAt.l25 h, MAt.g26 h, MAt.n26 h, MAt.r26 h, MAt.l26 h, MAt.g27 h, MAt.n27 h, MAt.r27 h, MAt.l27 h, MAt.g28 h, MAt.n28 h, MAt.r28 h, MAt.l28 h, obs, b2s, lA, lB, lM, nI_add, pk_mul, v1616, v1610, v1612, v1613, v1614, v1617, v1627, v1716, v1710, v1712, v1713, v1714, v1727]
  refine RW.s16 h (by omega) fun M1 h1 => ?_
  simp (disch := omega) only [MAt.ck h1, MAt.i0 h1, MAt.i2 h1, MAt.i3 h1, MAt.i4 h1, MAt.i5 h1, MAt.i6 h1, MAt.i7 h1, MAt.i8 h1, MAt.i9 h1, MAt.i15 h1, MAt.i18 h1, MAt.i21 h1, MAt.i22 h1, MAt.i23 h1, MAt.i24 h1, MAt.g1 h1, MAt.n1 h1, MAt.r1 h1, MAt.l1 h1, MAt.g10 h1, MAt.n10 h1, MAt.r10 h1, MAt.l10 h1, MAt.g11 h1, MAt.n11 h1, MAt.r11 h1, MAt.l11 h1, MAt.g12 h1, MAt.n12 h1, MAt.r12 h1, MAt.l12 h1, MAt.g13 h1, MAt.n13 h1, MAt.r13 h1, MAt.l13 h1, MAt.g14 h1, MAt.n14 h1, MAt.r14 h1, MAt.l14 h1, MAt.g16 h1, MAt.n16 h1, MAt.r16 h1, MAt.l16 h1, MAt.g17 h1, MAt.n17 h1, MAt.r17 h1, MAt.l17 h1, MAt.g19 h1, MAt.n19 h1, MAt.r19 h1, MAt.l19 h1, MAt.g20 h1, MAt.n20 h1, MAt.r20 h1, MAt.l20 h1, MAt.g25 h1, MAt.n25 h1, MAt.r25 h1, MAt.l25 h1, MAt.g26 h1, MAt.n26 h1, MAt.r26 h1, MAt.l26 h1, MAt.g27 h1, MAt.n27 h1, MAt.r27 h1, MAt.l27 h1, MAt.g28 h1, MAt.n28 h1, MAt.r28 h1, MAt.l28 h1, obs, b2s, lA, lB, lM, nI_add, pk_mul, v1616, v1610, v1612, v1613, v1614, v1617, v1627, v1716, v1710, v1712, v1713, v1714, v1727]
  rw [pk_un (by omega), h7, nI_1]
  refine RW.s16 (j := 7) h1 (by omega) fun M2 h2 => ?_
  simp (disch := omega) only [MAt.ck h2, MAt.i0 h2, MAt.i2 h2, MAt.i3 h2, MAt.i4 h2, MAt.i5 h2, MAt.i6 h2, MAt.i7 h2, MAt.i8 h2, MAt.i9 h2, MAt.i15 h2, MAt.i18 h2, MAt.i21 h2, MAt.i22 h2, MAt.i23 h2, MAt.i24 h2, MAt.g1 h2, MAt.n1 h2, MAt.r1 h2, MAt.l1 h2, MAt.g10 h2, MAt.n10 h2, MAt.r10 h2, MAt.l10 h2, MAt.g11 h2, MAt.n11 h2, MAt.r11 h2, MAt.l11 h2, MAt.g12 h2, MAt.n12 h2, MAt.r12 h2, MAt.l12 h2, MAt.g13 h2, MAt.n13 h2, MAt.r13 h2, MAt.l13 h2, MAt.g14 h2, MAt.n14 h2, MAt.r14 h2, MAt.l14 h2, MAt.g16 h2, MAt.n16 h2, MAt.r16 h2, MAt.l16 h2, MAt.g17 h2, MAt.n17 h2, MAt.r17 h2, MAt.l17 h2, MAt.g19 h2, MAt.n19 h2, MAt.r19 h2, MAt.l19 h2, MAt.g20 h2, MAt.n20 h2, MAt.r20 h2, MAt.l20 h2, MAt.g25 h2, MAt.n25 h2, MAt.r25 h2, MAt.l25 h2, MAt.g26 h2, MAt.n26 h2, MAt.r26 h2, MAt.l26 h2, MAt.g27 h2, MAt.n27 h2, MAt.r27 h2, MAt.l27 h2, MAt.g28 h2, MAt.n28 h2, MAt.r28 h2, MAt.l28 h2, obs, b2s, lA, lB, lM, nI_add, pk_mul, v1616, v1610, v1612, v1613, v1614, v1617, v1627, v1716, v1710, v1712, v1713, v1714, v1727]
  rw [pk_un (by omega), pk_un (by omega)]
  refine RW.s16 (j := 6) h2 (by omega) fun M3 h3 => ?_
  exact RW.ret h3 ⟨rfl, rfl⟩
theorem rf_nt14 (o : Int32) : ∀ (m i : Nat) (M : Mem) (S : Nat → Int32), MAt M F (va_up A 16 S) → S 7 = nI 40 → 1 ≤ i → i ≤ 40 → 40 - i < m → RW M (fn_X10_note_14 N m M 389 o (nI i)) (fun _ F' A' => F' = F ∧ ∃ S', A' = va_up A 16 S' ∧ (∀ q, i ≤ q → q < 40 → S' (42 + (q - 1)) = S (42 + q)) ∧ S' 81 = o ∧ S' 7 = nI 40 ∧ S' 6 = S 6 + 1 ∧ ∀ q, ¬ (q = 6 ∨ q = 7 ∨ q = 81 ∨ 42 + (i - 1) ≤ q ∧ q < 81) → S' q = S q) := by
  intro m
  induction m with
  | zero => intro i M S _ _ _ _ h; omega
  | succ m ih =>
    intro i M S h h7 h1 hi hm
    rw [fn_X10_note_14.eq_2]
    have hc := lLe (m := 40) (n := i) (by decide) (by omega)
    by_cases he : 40 ≤ i
    · rw [if_pos (hc.mpr he)]
      simp (disch := omega) only [MAt.ck h, MAt.i0 h, MAt.i2 h, MAt.i3 h, MAt.i4 h, MAt.i5 h, MAt.i6 h, MAt.i7 h, MAt.i8 h, MAt.i9 h, MAt.i15 h, MAt.i18 h, MAt.i21 h, MAt.i22 h, MAt.i23 h, MAt.i24 h, MAt.g1 h, MAt.n1 h, MAt.r1 h, MAt.l1 h, MAt.g10 h, MAt.n10 h, MAt.r10 h, MAt.l10 h, MAt.g11 h, MAt.n11 h, MAt.r11 h, MAt.l11 h, MAt.g12 h, MAt.n12 h, MAt.r12 h, MAt.l12 h, MAt.g13 h, MAt.n13 h, MAt.r13 h, MAt.l13 h, MAt.g14 h, MAt.n14 h, MAt.r14 h, MAt.l14 h, MAt.g16 h, MAt.n16 h, MAt.r16 h, MAt.l16 h, MAt.g17 h, MAt.n17 h, MAt.r17 h, MAt.l17 h, MAt.g19 h, MAt.n19 h, MAt.r19 h, MAt.l19 h, MAt.g20 h, MAt.n20 h, MAt.r20 h, MAt.l20 h, MAt.g25 h, MAt.n25 h, MAt.r25 h, MAt.l25 h, MAt.g26 h, MAt.n26 h, MAt.r26 h, MAt.l26 h, MAt.g27 h, MAt.n27 h, MAt.r27 h, MAt.l27 h, MAt.g28 h, MAt.n28 h, MAt.r28 h, MAt.l28 h, obs, b2s, lA, lB, lM, nI_add, pk_mul, v1616, v1610, v1612, v1613, v1614, v1617, v1627, v1716, v1710, v1712, v1713, v1714, v1727]
      rw [h7, lS (by omega)]
      refine RW.s16 (j := 7) h (by omega) fun M1 h1 => ?_
      refine (rf_note57 (n := 39) h1 pk_us (by omega) o).imp ?_
      rintro r F' A' ⟨rfl, rfl⟩
      refine ⟨rfl, _, rfl, fun q h1 h2 => by omega, ?_, ?_, ?_, fun q hq => ?_⟩
      · rw [pk_un (by omega), pk_un (by omega)]; exact pk_us
      · rw [pk_un (by omega), pk_us]
      · rw [pk_us, pk_un (by omega)]
      · rw [pk_un (by omega), pk_un (by omega), pk_un (by omega), pk_un (by omega)]
    · rw [if_neg (fun q => he (hc.mp q))]
      simp (disch := omega) only [MAt.ck h, MAt.i0 h, MAt.i2 h, MAt.i3 h, MAt.i4 h, MAt.i5 h, MAt.i6 h, MAt.i7 h, MAt.i8 h, MAt.i9 h, MAt.i15 h, MAt.i18 h, MAt.i21 h, MAt.i22 h, MAt.i23 h, MAt.i24 h, MAt.g1 h, MAt.n1 h, MAt.r1 h, MAt.l1 h, MAt.g10 h, MAt.n10 h, MAt.r10 h, MAt.l10 h, MAt.g11 h, MAt.n11 h, MAt.r11 h, MAt.l11 h, MAt.g12 h, MAt.n12 h, MAt.r12 h, MAt.l12 h, MAt.g13 h, MAt.n13 h, MAt.r13 h, MAt.l13 h, MAt.g14 h, MAt.n14 h, MAt.r14 h, MAt.l14 h, MAt.g16 h, MAt.n16 h, MAt.r16 h, MAt.l16 h, MAt.g17 h, MAt.n17 h, MAt.r17 h, MAt.l17 h, MAt.g19 h, MAt.n19 h, MAt.r19 h, MAt.l19 h, MAt.g20 h, MAt.n20 h, MAt.r20 h, MAt.l20 h, MAt.g25 h, MAt.n25 h, MAt.r25 h, MAt.l25 h, MAt.g26 h, MAt.n26 h, MAt.r26 h, MAt.l26 h, MAt.g27 h, MAt.n27 h, MAt.r27 h, MAt.l27 h, MAt.g28 h, MAt.n28 h, MAt.r28 h, MAt.l28 h, obs, b2s, lA, lB, lM, nI_add, pk_mul, v1616, v1610, v1612, v1613, v1614, v1617, v1627, v1716, v1710, v1712, v1713, v1714, v1727]
      rw [lS (by omega)]
      refine RW.s16 h (by omega) fun M1 h1 => ?_
      refine (ih (i + 1) M1 _ h1 (by rw [pk_un (by omega)]; exact h7) (by omega) (by omega) (by omega)).imp ?_
      rintro r F' A' ⟨q0, S', q1, q2, q3, q4, q5, q6⟩
      refine ⟨q0, S', q1, fun q h1 h2 => ?_, q3, q4, ?_, fun q hq => ?_⟩
      · by_cases hqi : q = i
        · subst hqi
          rw [q6 _ (by omega), show 42 + (q - 1) = 42 + q - 1 by omega]
          exact pk_us
        · rw [q2 q (by omega) h2, pk_un (by omega)]
      · rw [q5, pk_un (by omega)]
      · rw [q6 q (by omega), pk_un (by omega)]
theorem rf_note (hN : 2 ^ 15 ≤ N) {M : Mem} {S : Nat → Int32} {σ : St} (h : MAt M F (va_up A 16 S)) (hs : RelS S σ) (o : Int32) : RW M (fn_X10_note N M 389 o) (fun _ F' A' => F' = F ∧ ∃ S', A' = va_up A 16 S' ∧ RelS S' (mv3 σ o)) := by
  unfold fn_X10_note
  have hl := hs.2.1.2.2.2.2.1
  simp (disch := omega) only [MAt.ck h, MAt.i0 h, MAt.i2 h, MAt.i3 h, MAt.i4 h, MAt.i5 h, MAt.i6 h, MAt.i7 h, MAt.i8 h, MAt.i9 h, MAt.i15 h, MAt.i18 h, MAt.i21 h, MAt.i22 h, MAt.i23 h, MAt.i24 h, MAt.g1 h, MAt.n1 h, MAt.r1 h, MAt.l1 h, MAt.g10 h, MAt.n10 h, MAt.r10 h, MAt.l10 h, MAt.g11 h, MAt.n11 h, MAt.r11 h, MAt.l11 h, MAt.g12 h, MAt.n12 h, MAt.r12 h, MAt.l12 h, MAt.g13 h, MAt.n13 h, MAt.r13 h, MAt.l13 h, MAt.g14 h, MAt.n14 h, MAt.r14 h, MAt.l14 h, MAt.g16 h, MAt.n16 h, MAt.r16 h, MAt.l16 h, MAt.g17 h, MAt.n17 h, MAt.r17 h, MAt.l17 h, MAt.g19 h, MAt.n19 h, MAt.r19 h, MAt.l19 h, MAt.g20 h, MAt.n20 h, MAt.r20 h, MAt.l20 h, MAt.g25 h, MAt.n25 h, MAt.r25 h, MAt.l25 h, MAt.g26 h, MAt.n26 h, MAt.r26 h, MAt.l26 h, MAt.g27 h, MAt.n27 h, MAt.r27 h, MAt.l27 h, MAt.g28 h, MAt.n28 h, MAt.r28 h, MAt.l28 h, obs, b2s, lA, lB, lM, nI_add, pk_mul, v1616, v1610, v1612, v1613, v1614, v1617, v1627, v1716, v1710, v1712, v1713, v1714, v1727]
  rw [hs.1.2.2.2.1]
  have hc := lEq (m := 40) (n := (σ.2 4).length) (by decide) (by omega)
  have hr := hs.2.2.2.2.2.1
  by_cases he : (σ.2 4).length = 40
  · rw [if_pos (hc.mpr he)]
    have h7 : S 7 = nI 40 := by rw [hs.1.2.2.2.1, he]
    have := rf_nt14 (N := N) (F := F) (A := A) o N 1 M S h h7 (by omega) (by omega) (by omega)
    refine this.imp ?_
    rintro r F' A' ⟨q0, S', q1, q2, q3, q4, q5, q6⟩
    refine ⟨q0, S', q1, ?_⟩
    have e : addRec (σ.2 4) o = (σ.2 4).eraseIdx 0 ++ [o] := by unfold addRec; rw [if_neg (by omega)]
    have hlen : ((σ.2 4).eraseIdx 0).length = 39 := by rw [List.length_eraseIdx, if_pos (by omega), he]
    have hnum : RelS (upd S 6 (S 6 + 1)) (upd σ.1 4 (σ.1 4 + 1), σ.2) := hs.nums (fun q hq hq2 => pk_un (by omega)) hs.1.1.1 hs.1.1.2.1 hs.1.1.2.2.1 hs.1.1.2.2.2.1 (by rw [pk_us, hs.1.1.2.2.2.2]; rfl)
    unfold mv3
    rw [e]
    refine hnum.rec (fun q hq hq2 => ?_) ?_ ?_ (fun i hi => ?_)
    · by_cases h6 : q = 6
      · subst h6
        rw [q5, pk_us]
      · rw [q6 q (by omega), pk_un h6]
    · rw [q4, List.length_append, hlen]; rfl
    · rw [List.length_append, hlen]; exact Nat.le_refl 40
    · rw [List.length_append, hlen] at hi
      have hi' : i < 39 + 1 := hi
      by_cases h39 : i = 39
      · rw [getD_app1 (by omega), h39]; exact q3
      · obtain ⟨e1, e2⟩ := getD_erase (l := σ.2 4) (k := 0) (i := i) (by omega) (by omega)
        rw [getD_app (by omega), e1, if_neg (by omega)]
        have := q2 (i + 1) (by omega) (by omega)
        rw [show 42 + (i + 1 - 1) = 42 + i by omega] at this
        rw [this]
        exact hr (i + 1) (by omega)
  · rw [if_neg (fun q => he (hc.mp q))]
    refine (rf_note57 (N := N) h hs.1.2.2.2.1 (by omega) o).imp ?_
    rintro r F' A' ⟨rfl, rfl⟩
    refine ⟨rfl, _, rfl, ?_⟩
    have e : addRec (σ.2 4) o = σ.2 4 ++ [o] := by unfold addRec; rw [if_pos (by omega)]
    have hnum : RelS (upd S 6 (S 6 + 1)) (upd σ.1 4 (σ.1 4 + 1), σ.2) := hs.nums (fun q hq hq2 => pk_un (by omega)) hs.1.1.1 hs.1.1.2.1 hs.1.1.2.2.1 hs.1.1.2.2.2.1 (by rw [pk_us, hs.1.1.2.2.2.2]; rfl)
    unfold mv3
    rw [e]
    refine hnum.rec (fun q hq hq2 => ?_) ?_ ?_ (fun i hi => ?_)
    · by_cases h6 : q = 6
      · subst h6
        rw [pk_us, pk_us]
      · rw [pk_un h6, pk_un (by omega), pk_un (by omega), pk_un h6]
    · rw [pk_un (by omega), pk_us, List.length_append]; rfl
    · rw [List.length_append]; show (σ.2 4).length + 1 ≤ 40; omega
    · rw [List.length_append] at hi
      have hi' : i < (σ.2 4).length + 1 := hi
      rw [pk_un (by omega), pk_un (by omega)]
      by_cases h39 : i = (σ.2 4).length
      · rw [getD_app1 h39, h39, pk_us]
      · rw [getD_app (by omega), pk_un (by omega)]
        exact hr i (by omega)
end RP
