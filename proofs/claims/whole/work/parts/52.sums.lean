/-! PURE: sums over bins, bags, samples; isStopped, classify, score -/
def bvS (κ : Cf) (σ : St) : Nat → Int32
  | 0 => 0
  | k + 1 => bvS κ σ k + (σ.2 2).getD k 0 * atI (κ.2 0) ((κ.2 10).getD k 0)
def dcI (κ : Cf) (σ : St) (b : Nat) : Int32 := if (σ.2 7).getD b 0 = -1 then 0 else ((σ.2 7).getD b 0 - (σ.2 6).getD b 0) * atI (κ.2 0) ((σ.2 5).getD b 0)
def dsS (κ : Cf) (σ : St) : Nat → Int32
  | 0 => 0
  | k + 1 => dsS κ σ k + dcI κ σ k
def abI (x : Int32) : Int32 := if (0 : Int32) ≤ x then x else 0 - x
def wbS (κ : Cf) (σ : St) : Nat → Int32 × Int32
  | 0 => (-2, 0)
  | k + 1 => if abI (dcI κ σ k) ≤ (wbS κ σ k).2 then wbS κ σ k else (nI k, abI (dcI κ σ k))
def csI (l v : Int32) : Int32 := if l = -1 then (if 20 ≤ v then 0 else 10) else if v = l then 0 else if 20 ≤ v then 1 else 5
def smV (κ : Cf) (σ : St) (m : Int32) (k : Nat) : Int32 := vdI κ ((σ.2 8).getD k 0 / 10000 + σ.1 0) ((σ.2 8).getD k 0 - (σ.2 8).getD k 0 / 10000 * 10000 + σ.1 1) m
def ctS (κ : Cf) (σ : St) (m : Int32) : Nat → Int32
  | 0 => 0
  | k + 1 => ctS κ σ m k + csI ((σ.2 9).getD k 0) (smV κ σ m k)
section XS
variable {N : Nat} {M M' : Mem} {bf : List Int32} {κ : Cf} {σ : St} {U : List St} {sn : Nat → Option St}
theorem x_isStopped (h : XAt M bf κ σ U sn) (hN : 2 ^ 15 ≤ N) (w : WFK κ) (ws : WFS κ σ) : ∃ M', fn_X9_isStopped N M 0 = some (if nxI κ σ = 30 then 1 else 0, M') ∧ XAt M' bf κ σ U sn ∧ Fr M M' 377 389 := by
  have hb := w.1.2.2.2.2.1
  unfold fn_X9_isStopped
  generalize hR : (if nxI κ σ = 30 then (1 : Int32) else 0) = R
  obtain ⟨s1, hS⟩ := h.st
  have hl := (row_len hS.r1).1
  have hl0 := (row_len hS.r0).1
  rw [s1, obs, hS.gI (show 3 < 5 by decide), obs]
  rcases hS.2.1 with g | g
  · have g' : ¬ σ.1 3 = 1 := by rw [g]; decide
    rw [if_pos g, obs, hS.g0, obs, row_size hS.r0, obs]
    by_cases h0 : (σ.2 0).length = 0
    · rw [h0, nI_0, if_pos (Int32.le_refl _)]
      refine ⟨M, ?_, h, Fr.rf⟩
      rw [← hR, if_neg]
      rcases hn : nlI κ σ with _ | k
      · rw [nxI_none g' hn, if_pos h0]; decide
      · rw [nxI_some g' hn]
        obtain ⟨k1, k2⟩ := nlN_some _ (Nat.le_refl _) hn
        rcases rmI_form κ σ ((σ.2 1).getD k 0) hb with ⟨q, -⟩ | ⟨i, i1, i2, -⟩
        · exact absurd q k2
        · rw [i2]; intro q
          have := (nI_eq (a := i) (b := 30) (by omega) (by omega)).mp q
          omega
    · rw [if_neg (nI_nle (by omega) (by omega)), h.ck, obs]
      obtain ⟨M1, e1, h1, f1⟩ := x_nextOutcome (N := N) h hN w ws
      rw [e1, b2s]
      refine ⟨M1, ?_, h1, f1⟩
      rw [← hR]
      have key : unst (nxI κ σ) = -2 ↔ nxI κ σ = 30 := by
        unfold unst
        constructor
        · intro q
          by_cases e : nxI κ σ = 30
          · exact e
          · rw [if_neg e] at q
            exfalso
            revert q
            rcases hn : nlI κ σ with _ | k
            · rw [nxI_none g' hn, if_neg h0]
              split
              · split
                · split
                  · split
                    · split <;> decide
                    · rcases rmI_form κ σ (nvI κ σ ((σ.2 0).getD 0 0)) hb with ⟨q, -⟩ | ⟨i, i1, i2, i3, i4, i5⟩
                      · rename_i r _; exact absurd q (by assumption)
                      · intro q; rw [q] at i5; exact i5 (by decide)
                  · decide
                · rcases vd_split κ w ((σ.2 0).getD 0 0 / 10000 + σ.1 0) ((σ.2 0).getD 0 0 - (σ.2 0).getD 0 0 / 10000 * 10000 + σ.1 1) (σ.1 2) with ⟨g1, g2, g3, g4⟩ | ⟨j, j1, j2, j3, j4⟩
                  · exact g4
                  · rename_i r; exact absurd j3 r
              · decide
            · rw [nxI_some g' hn]
              obtain ⟨k1, k2⟩ := nlN_some _ (Nat.le_refl _) hn
              intro q; rw [q] at k2; exact k2 (by decide)
        · intro q
          rw [if_pos q]
      by_cases e : nxI κ σ = 30
      · rw [if_pos (key.mpr e), if_pos e]
      · rw [if_neg (fun q => e (key.mp q)), if_neg e]
  · rw [if_neg (by rw [g]; decide)]
    refine ⟨M, ?_, h, Fr.rf⟩
    rw [← hR, nxI_jam g, if_neg (by decide)]
theorem x_classify (h : XAt M bf κ σ U sn) (hN : 2 ^ 15 ≤ N) (d a : Int32) (hm : meI d a = true) : ∃ M', fn_X9_classify N M 0 d a = some (vdI κ (d + σ.1 0) (a + σ.1 1) (σ.1 2), M') ∧ XAt M' bf κ σ U sn ∧ Fr M M' 377 389 := by
  obtain ⟨s1, hS⟩ := h.st
  unfold fn_X9_classify
  rw [ev_meI, b2s, if_pos hm, if_neg (by decide), s1, obs, hS.gI (show 2 < 5 by decide), obs, h.ck, obs]
  obtain ⟨M1, e1, h1, f1, -⟩ := x_verdict (N := N) h hN d a (σ.1 2)
  rw [e1, b2s]
  exact ⟨M1, rfl, h1, f1⟩
theorem x_classifyN (d a : Int32) (hm : meI d a = false) : fn_X9_classify N M 0 d a = none ∧ fn_X9_classifyT N M 0 d a = some (2, M) := by
  unfold fn_X9_classify fn_X9_classifyT
  have z : (if false = true then (1 : Int32) else 0) = 0 := rfl
  rw [ev_meI, b2s, b2s, hm]
  exact ⟨if_pos z, if_pos z⟩
theorem x_scoreN (h : XAt M bf κ σ U sn) (x d a : Int32) : (hasI (κ.2 0).length x = false → fn_X9_score N M 0 x d a = none ∧ fn_X9_scoreT N M 0 x d a = some (1, M)) ∧ (hasI (κ.2 0).length x = true → meI d a = false → fn_X9_score N M 0 x d a = none ∧ fn_X9_scoreT N M 0 x d a = some (2, M)) := by
  unfold fn_X9_score fn_X9_scoreT
  rw [h.ck, obs, obs, x_isType h, b2s, b2s, ev_meI, b2s, b2s]
  have z : (if false = true then (1 : Int32) else 0) = 0 := rfl
  have o : ¬ (if true = true then (1 : Int32) else 0) = 0 := by decide
  constructor
  · intro q
    rw [q]
    exact ⟨if_pos z, if_pos z⟩
  · intro q r
    rw [q, r]
    exact ⟨(if_neg o).trans (if_pos z), (if_neg o).trans (if_pos z)⟩
theorem x_bv (h : XAt M bf κ σ U sn) (w : WFK κ) (ws : WFS κ σ) : ∀ (m k : Nat), k ≤ (κ.2 10).length → (κ.2 10).length - k < m → fn_X9_binValue_4 N m M 0 (bvS κ σ k) (nI k) = some (bvS κ σ (κ.2 10).length, M) := by
  obtain ⟨cf, c1, hC, c2⟩ := h.cfg
  obtain ⟨s1, hS⟩ := h.st
  have hb := w.1.2.2.2.2.1
  have hs := ws.1
  intro m
  induction m with
  | zero => intro k _ h; omega
  | succ m ih =>
    intro k hk hm
    rw [fn_X9_binValue_4.eq_2]
    simp only [c1, hC.ty, hC.fk, hC.bt, hC.bs, hC.i0, hC.i1, hC.i2, hC.ct, hC.cf, fn_X3_count, hC.t0, hC.t1, hC.t2, hC.t3, hC.t4, hC.f0, hC.f1, hC.f2, hC.f3, hC.f4, row_size hC.r0, row_ck hC.r0, row_at hC.r0, row_has hC.r0, row_size hC.r1, row_ck hC.r1, row_at hC.r1, row_has hC.r1, row_size hC.r2, row_ck hC.r2, row_at hC.r2, row_has hC.r2, row_size hC.r3, row_ck hC.r3, row_at hC.r3, row_has hC.r3, row_size hC.r4, row_ck hC.r4, row_at hC.r4, row_has hC.r4, row_size hC.r5, row_ck hC.r5, row_at hC.r5, row_has hC.r5, row_size hC.r6, row_ck hC.r6, row_at hC.r6, row_has hC.r6, row_size hC.r7, row_ck hC.r7, row_at hC.r7, row_has hC.r7, row_size hC.r8, row_ck hC.r8, row_at hC.r8, row_has hC.r8, row_size hC.r9, row_ck hC.r9, row_at hC.r9, row_has hC.r9, row_size hC.r10, row_ck hC.r10, row_at hC.r10, row_has hC.r10, row_size hC.r11, row_ck hC.r11, row_at hC.r11, row_has hC.r11, s1, hS.ck, hS.gI (show 0 < 5 by decide), hS.gI (show 1 < 5 by decide), hS.gI (show 2 < 5 by decide), hS.gI (show 3 < 5 by decide), hS.gI (show 4 < 5 by decide), hS.g0, row_size hS.r0, row_ck hS.r0, row_at hS.r0, row_has hS.r0, row_isFull hS.r0, hS.g1, row_size hS.r1, row_ck hS.r1, row_at hS.r1, row_has hS.r1, row_isFull hS.r1, hS.g2, row_size hS.r2, row_ck hS.r2, row_at hS.r2, row_has hS.r2, row_isFull hS.r2, hS.g3, row_size hS.r3, row_ck hS.r3, row_at hS.r3, row_has hS.r3, row_isFull hS.r3, hS.g4, row_size hS.r4, row_ck hS.r4, row_at hS.r4, row_has hS.r4, row_isFull hS.r4, hS.g5, row_size hS.r5, row_ck hS.r5, row_at hS.r5, row_has hS.r5, row_isFull hS.r5, hS.g6, row_size hS.r6, row_ck hS.r6, row_at hS.r6, row_has hS.r6, row_isFull hS.r6, hS.g7, row_size hS.r7, row_ck hS.r7, row_at hS.r7, row_has hS.r7, row_isFull hS.r7, hS.g8, row_size hS.r8, row_ck hS.r8, row_at hS.r8, row_has hS.r8, row_isFull hS.r8, hS.g9, row_size hS.r9, row_ck hS.r9, row_at hS.r9, row_has hS.r9, row_isFull hS.r9, h.ck, obs, b2s]
    by_cases hke : k = (κ.2 10).length
    · subst hke
      rw [if_pos (Int32.le_refl _)]
    · rw [if_neg (nI_ge (by omega) (by omega)), atI_nI (l := σ.2 2) (by omega) (by omega), atI_nI (l := κ.2 10) (by omega) (by omega), nI_1]
      exact ih (k + 1) (by omega) (by omega)
theorem x_binValue (h : XAt M bf κ σ U sn) (hN : 2 ^ 15 ≤ N) (w : WFK κ) (ws : WFS κ σ) : fn_X9_binValue N M 0 = some (bvS κ σ (κ.2 10).length, M) := by
  have hb := w.1.2.2.2.2.1
  unfold fn_X9_binValue
  have := x_bv (N := N) h w ws N 0 (by omega) (by omega)
  rw [nI_0] at this
  exact this
theorem x_dcOf (h : XAt M bf κ σ U sn) {b : Nat} (hb : b < (σ.2 5).length) (e6 : (σ.2 6).length = (σ.2 5).length) (e7 : (σ.2 7).length = (σ.2 5).length) : fn_X9_discrepancyOf N M 0 (nI b) = some (dcI κ σ b, M) := by
  obtain ⟨cf, c1, hC, c2⟩ := h.cfg
  obtain ⟨s1, hS⟩ := h.st
  have hl := row_len hS.r5
  unfold fn_X9_discrepancyOf dcI
  generalize hR : (if (σ.2 7).getD b 0 = -1 then (0 : Int32) else ((σ.2 7).getD b 0 - (σ.2 6).getD b 0) * atI (κ.2 0) ((σ.2 5).getD b 0)) = R
  simp only [c1, hC.ty, hC.fk, hC.bt, hC.bs, hC.i0, hC.i1, hC.i2, hC.ct, hC.cf, fn_X3_count, hC.t0, hC.t1, hC.t2, hC.t3, hC.t4, hC.f0, hC.f1, hC.f2, hC.f3, hC.f4, row_size hC.r0, row_ck hC.r0, row_at hC.r0, row_has hC.r0, row_size hC.r1, row_ck hC.r1, row_at hC.r1, row_has hC.r1, row_size hC.r2, row_ck hC.r2, row_at hC.r2, row_has hC.r2, row_size hC.r3, row_ck hC.r3, row_at hC.r3, row_has hC.r3, row_size hC.r4, row_ck hC.r4, row_at hC.r4, row_has hC.r4, row_size hC.r5, row_ck hC.r5, row_at hC.r5, row_has hC.r5, row_size hC.r6, row_ck hC.r6, row_at hC.r6, row_has hC.r6, row_size hC.r7, row_ck hC.r7, row_at hC.r7, row_has hC.r7, row_size hC.r8, row_ck hC.r8, row_at hC.r8, row_has hC.r8, row_size hC.r9, row_ck hC.r9, row_at hC.r9, row_has hC.r9, row_size hC.r10, row_ck hC.r10, row_at hC.r10, row_has hC.r10, row_size hC.r11, row_ck hC.r11, row_at hC.r11, row_has hC.r11, s1, hS.ck, hS.gI (show 0 < 5 by decide), hS.gI (show 1 < 5 by decide), hS.gI (show 2 < 5 by decide), hS.gI (show 3 < 5 by decide), hS.gI (show 4 < 5 by decide), hS.g0, row_size hS.r0, row_ck hS.r0, row_at hS.r0, row_has hS.r0, row_isFull hS.r0, hS.g1, row_size hS.r1, row_ck hS.r1, row_at hS.r1, row_has hS.r1, row_isFull hS.r1, hS.g2, row_size hS.r2, row_ck hS.r2, row_at hS.r2, row_has hS.r2, row_isFull hS.r2, hS.g3, row_size hS.r3, row_ck hS.r3, row_at hS.r3, row_has hS.r3, row_isFull hS.r3, hS.g4, row_size hS.r4, row_ck hS.r4, row_at hS.r4, row_has hS.r4, row_isFull hS.r4, hS.g5, row_size hS.r5, row_ck hS.r5, row_at hS.r5, row_has hS.r5, row_isFull hS.r5, hS.g6, row_size hS.r6, row_ck hS.r6, row_at hS.r6, row_has hS.r6, row_isFull hS.r6, hS.g7, row_size hS.r7, row_ck hS.r7, row_at hS.r7, row_has hS.r7, row_isFull hS.r7, hS.g8, row_size hS.r8, row_ck hS.r8, row_at hS.r8, row_has hS.r8, row_isFull hS.r8, hS.g9, row_size hS.r9, row_ck hS.r9, row_at hS.r9, row_has hS.r9, row_isFull hS.r9, h.ck, obs, b2s]
  rw [atI_nI (l := σ.2 7) (by omega) (by omega), atI_nI (l := σ.2 6) (by omega) (by omega), atI_nI (l := σ.2 5) (by omega) (by omega), ← hR]
  split <;> rfl
theorem x_ds (h : XAt M bf κ σ U sn) (e6 : (σ.2 6).length = (σ.2 5).length) (e7 : (σ.2 7).length = (σ.2 5).length) : ∀ (m k : Nat), k ≤ (σ.2 5).length → (σ.2 5).length - k < m → fn_X9_discrepancy_4 N m M 0 (dsS κ σ k) (nI k) = some (dsS κ σ (σ.2 5).length, M) := by
  obtain ⟨s1, hS⟩ := h.st
  have hl := row_len hS.r5
  intro m
  induction m with
  | zero => intro k _ h; omega
  | succ m ih =>
    intro k hk hm
    rw [fn_X9_discrepancy_4.eq_2, s1, obs, hS.g5, obs, row_size hS.r5, obs]
    by_cases hke : k = (σ.2 5).length
    · subst hke
      rw [if_pos (Int32.le_refl _)]
    · rw [if_neg (nI_ge (by omega) (by omega)), h.ck, obs, x_dcOf h (by omega) e6 e7, b2s, nI_1]
      exact ih (k + 1) (by omega) (by omega)
theorem x_discrepancy (h : XAt M bf κ σ U sn) (hN : 2 ^ 15 ≤ N) (e6 : (σ.2 6).length = (σ.2 5).length) (e7 : (σ.2 7).length = (σ.2 5).length) : fn_X9_discrepancy N M 0 = some (dsS κ σ (σ.2 5).length, M) := by
  obtain ⟨s1, hS⟩ := h.st
  have hl := row_len hS.r5
  unfold fn_X9_discrepancy
  have := x_ds (N := N) h e6 e7 N 0 (by omega) (by omega)
  rw [nI_0] at this
  exact this
theorem x_wb (h : XAt M bf κ σ U sn) (e6 : (σ.2 6).length = (σ.2 5).length) (e7 : (σ.2 7).length = (σ.2 5).length) : ∀ (m k : Nat), k ≤ (σ.2 5).length → (σ.2 5).length - k < m → fn_X9_worstBag_7 N m M 0 (wbS κ σ k).1 (wbS κ σ k).2 (nI k) = some ((wbS κ σ (σ.2 5).length).1, M) := by
  obtain ⟨s1, hS⟩ := h.st
  have hl := row_len hS.r5
  intro m
  induction m with
  | zero => intro k _ h; omega
  | succ m ih =>
    intro k hk hm
    rw [fn_X9_worstBag_7.eq_2, s1, obs, hS.g5, obs, row_size hS.r5, obs]
    by_cases hke : k = (σ.2 5).length
    · subst hke
      rw [if_pos (Int32.le_refl _)]
    · rw [if_neg (nI_ge (by omega) (by omega)), h.ck, obs, x_dcOf h (by omega) e6 e7, b2s]
      unfold mm_lt fn_X9_worstBag_42
      have step := ih (k + 1) (by omega) (by omega)
      rw [nI_1]
      have hr : wbS κ σ (k + 1) = if abI (dcI κ σ k) ≤ (wbS κ σ k).2 then wbS κ σ k else (nI k, abI (dcI κ σ k)) := rfl
      have ha : (if (0 : Int32) ≤ dcI κ σ k then dcI κ σ k else 0 - dcI κ σ k) = abI (dcI κ σ k) := rfl
      rw [ha]
      dsimp only
      by_cases e : abI (dcI κ σ k) ≤ (wbS κ σ k).2
      · rw [if_pos e] at hr ⊢
        rw [← hr]
        exact step
      · rw [if_neg e] at hr ⊢
        rw [hr] at step
        exact step
theorem x_worstBag (h : XAt M bf κ σ U sn) (hN : 2 ^ 15 ≤ N) (e6 : (σ.2 6).length = (σ.2 5).length) (e7 : (σ.2 7).length = (σ.2 5).length) : fn_X9_worstBag N M 0 = some ((wbS κ σ (σ.2 5).length).1, M) := by
  obtain ⟨s1, hS⟩ := h.st
  have hl := row_len hS.r5
  unfold fn_X9_worstBag
  have := x_wb (N := N) h e6 e7 N 0 (by omega) (by omega)
  rw [nI_0] at this
  exact this
theorem ev_cost (l v : Int32) : fn_X9_cost N M l v = some (csI l v, M) := by
  unfold fn_X9_cost fn_X9_cost_11 csI
  by_cases h1 : 20 ≤ v
  · rw [if_pos h1, if_pos h1]
    by_cases h2 : l = -1
    · rw [if_pos h2, if_pos h2, if_pos rfl]
    · rw [if_neg h2, if_neg h2]
      by_cases h3 : v = l
      · rw [if_pos h3, if_pos h3]
      · rw [if_neg h3, if_neg h3, if_pos rfl, if_pos h1]
  · rw [if_neg h1, if_neg h1]
    by_cases h2 : l = -1
    · rw [if_pos h2, if_pos h2, if_neg (by decide)]
    · rw [if_neg h2, if_neg h2]
      by_cases h3 : v = l
      · rw [if_pos h3, if_pos h3]
      · rw [if_neg h3, if_neg h3, if_neg (by decide), if_neg h1]
theorem x_ct (hN : 2 ^ 15 ≤ N) (e9 : (σ.2 9).length = (σ.2 8).length) (mg : Int32) : ∀ (m k : Nat) (M : Mem), XAt M bf κ σ U sn → k ≤ (σ.2 8).length → (σ.2 8).length - k < m → ∃ M', fn_X9_sampleCost_13 N m M 0 mg (ctS κ σ mg k) (nI k) = some (ctS κ σ mg (σ.2 8).length, M') ∧ XAt M' bf κ σ U sn ∧ Fr M M' 377 389 := by
  intro m
  induction m with
  | zero => intro k M _ _ h; omega
  | succ m ih =>
    intro k M h hk hm
    obtain ⟨s1, hS⟩ := h.st
    have hl := row_len hS.r8
    rw [fn_X9_sampleCost_13.eq_2, s1, obs, hS.g8, obs, row_size hS.r8, obs]
    by_cases hke : k = (σ.2 8).length
    · subst hke
      rw [if_pos (Int32.le_refl _)]
      exact ⟨M, rfl, h, Fr.rf⟩
    · rw [if_neg (nI_ge (by omega) (by omega)), obs, hS.g8, obs, row_ck hS.r8, obs, row_at hS.r8, b2s, s1, obs, hS.g9, obs, row_ck hS.r9, obs, row_at hS.r9, b2s, ev_dOf, b2s, ev_aOf, b2s, h.ck, obs, atI_nI (l := σ.2 8) (by omega) (by omega), atI_nI (l := σ.2 9) (by omega) (by omega)]
      obtain ⟨M1, e1, h1, f1, -⟩ := x_verdict (N := N) h hN ((σ.2 8).getD k 0 / 10000) ((σ.2 8).getD k 0 - (σ.2 8).getD k 0 / 10000 * 10000) mg
      rw [e1, b2s, ev_cost, b2s, nI_1]
      obtain ⟨M2, e2, h2, f2⟩ := ih (k + 1) M1 h1 (by omega) (by omega)
      exact ⟨M2, e2, h2, f1.tr f2⟩
theorem ev_isMargin (x : Int32) : fn_X9_isMargin N M x = some (if x < 0 then 0 else if 2000 < x then 0 else 1, M) := by
  unfold fn_X9_isMargin
  split
  · rfl
  · split <;> rfl
theorem x_sampleCost (h : XAt M bf κ σ U sn) (hN : 2 ^ 15 ≤ N) (e9 : (σ.2 9).length = (σ.2 8).length) (x : Int32) : ∃ M', fn_X9_sampleCost N M 0 x = some (if x < 0 then -1 else if 2000 < x then -1 else ctS κ σ x (σ.2 8).length, M') ∧ XAt M' bf κ σ U sn ∧ Fr M M' 377 389 := by
  obtain ⟨s1, hS⟩ := h.st
  have hl := row_len hS.r8
  unfold fn_X9_sampleCost
  rw [ev_isMargin, b2s]
  by_cases h1 : x < 0
  · rw [if_pos h1, if_pos h1, if_pos rfl]
    exact ⟨M, rfl, h, Fr.rf⟩
  · rw [if_neg h1, if_neg h1]
    by_cases h2 : 2000 < x
    · rw [if_pos h2, if_pos h2, if_pos rfl]
      exact ⟨M, rfl, h, Fr.rf⟩
    · rw [if_neg h2, if_neg h2, if_neg (by decide)]
      have := x_ct (N := N) hN e9 x N 0 M h (by omega) (by omega)
      rw [nI_0] at this
      exact this
end XS
section RS
variable {N : Nat} {M : Mem} {F : Nat → Int32} {A : Nat → Nat → Int32} {bf : List Int32} {κ : Cf} {σ : St} {U : List St} {sn : Nat → Option St}
theorem rf_bv (h : MAt M F A) (k : RelK (A 10) (A 12) (A 13) (A 14) κ) (s : RelS (A 16) σ) (w : WFK κ) (ws : WFS κ σ) : ∀ (m i : Nat), i ≤ (κ.2 10).length → (κ.2 10).length - i < m → RW M (fn_X10_binValue_4 N m M 389 (bvS κ σ i) (nI i)) (fun r F' A' => r = bvS κ σ (κ.2 10).length ∧ F' = upd F 0 0 ∧ A' = A) := by
  have h8 := w.1.2.2.2.2.1
  have ht := w.1.1
  have hs := ws.1
  intro m
  induction m with
  | zero => intro i _ h; omega
  | succ m ih =>
    intro i hi hm
    rw [fn_X10_binValue_4.eq_2]
    simp (disch := omega) only [MAt.ck h, MAt.i0 h, MAt.i2 h, MAt.i3 h, MAt.i4 h, MAt.i5 h, MAt.i6 h, MAt.i7 h, MAt.i8 h, MAt.i9 h, MAt.i15 h, MAt.i18 h, MAt.i21 h, MAt.i22 h, MAt.i23 h, MAt.i24 h, MAt.g1 h, MAt.n1 h, MAt.r1 h, MAt.l1 h, MAt.g10 h, MAt.n10 h, MAt.r10 h, MAt.l10 h, MAt.g11 h, MAt.n11 h, MAt.r11 h, MAt.l11 h, MAt.g12 h, MAt.n12 h, MAt.r12 h, MAt.l12 h, MAt.g13 h, MAt.n13 h, MAt.r13 h, MAt.l13 h, MAt.g14 h, MAt.n14 h, MAt.r14 h, MAt.l14 h, MAt.g16 h, MAt.n16 h, MAt.r16 h, MAt.l16 h, MAt.g17 h, MAt.n17 h, MAt.r17 h, MAt.l17 h, MAt.g19 h, MAt.n19 h, MAt.r19 h, MAt.l19 h, MAt.g20 h, MAt.n20 h, MAt.r20 h, MAt.l20 h, MAt.g25 h, MAt.n25 h, MAt.r25 h, MAt.l25 h, MAt.g26 h, MAt.n26 h, MAt.r26 h, MAt.l26 h, MAt.g27 h, MAt.n27 h, MAt.r27 h, MAt.l27 h, MAt.g28 h, MAt.n28 h, MAt.r28 h, MAt.l28 h, obs, b2s, lA, lB, lM, nI_add, pk_mul]
    rw [k.1.2.2.1]
    by_cases he : i = (κ.2 10).length
    · subst he
      rw [if_pos (Int32.le_refl _)]
      refine RW.call (rf_told h _) ?_
      rintro r M' F' A' h' ⟨rfl, rfl, rfl⟩
      exact RW.ret h' ⟨rfl, rfl, rfl⟩
    · rw [if_neg (nI_ge (by omega) (by omega))]
      obtain ⟨⟨t, t1, t2⟩, -⟩ := w.2.2.2.1 i (by omega)
      rw [(k.2.2.2 i (by omega)).1, t2]
      simp (disch := omega) only [MAt.ck h, MAt.i0 h, MAt.i2 h, MAt.i3 h, MAt.i4 h, MAt.i5 h, MAt.i6 h, MAt.i7 h, MAt.i8 h, MAt.i9 h, MAt.i15 h, MAt.i18 h, MAt.i21 h, MAt.i22 h, MAt.i23 h, MAt.i24 h, MAt.g1 h, MAt.n1 h, MAt.r1 h, MAt.l1 h, MAt.g10 h, MAt.n10 h, MAt.r10 h, MAt.l10 h, MAt.g11 h, MAt.n11 h, MAt.r11 h, MAt.l11 h, MAt.g12 h, MAt.n12 h, MAt.r12 h, MAt.l12 h, MAt.g13 h, MAt.n13 h, MAt.r13 h, MAt.l13 h, MAt.g14 h, MAt.n14 h, MAt.r14 h, MAt.l14 h, MAt.g16 h, MAt.n16 h, MAt.r16 h, MAt.l16 h, MAt.g17 h, MAt.n17 h, MAt.r17 h, MAt.l17 h, MAt.g19 h, MAt.n19 h, MAt.r19 h, MAt.l19 h, MAt.g20 h, MAt.n20 h, MAt.r20 h, MAt.l20 h, MAt.g25 h, MAt.n25 h, MAt.r25 h, MAt.l25 h, MAt.g26 h, MAt.n26 h, MAt.r26 h, MAt.l26 h, MAt.g27 h, MAt.n27 h, MAt.r27 h, MAt.l27 h, MAt.g28 h, MAt.n28 h, MAt.r28 h, MAt.l28 h, obs, b2s, lA, lB, lM, nI_add, pk_mul]
      rw [s.2.2.2.1 i (by omega), k.2.1 t t1 0 (by omega)]
      have : bvS κ σ (i + 1) = bvS κ σ i + (σ.2 2).getD i 0 * (κ.2 0).getD t 0 := by
        rw [bvS, t2, atI_nI t1 (by omega)]
      rw [← this]
      exact ih (i + 1) (by omega) (by omega)
theorem rf_binValue (hN : 2 ^ 15 ≤ N) (h : MAt M F A) (k : Rel F A bf κ σ U sn) (w : WF κ σ U sn) : RW M (fn_X10_binValue N M 389) (fun r F' A' => r = bvS κ σ (κ.2 10).length ∧ Qt F A F' A') := by
  have h8 := w.1.1.2.2.2.2.1
  unfold fn_X10_binValue
  have := rf_bv (N := N) h k.2.1 k.2.2.1 w.1 w.2.1 N 0 (by omega) (by omega)
  rw [nI_0] at this
  refine this.imp ?_
  rintro r F' A' ⟨rfl, rfl, rfl⟩
  exact ⟨rfl, Qt.u0⟩
theorem i32_p1 (x : Int32) : x + 1 = 0 ↔ x = -1 := by
  constructor
  · intro h
    have : x + 1 - 1 = 0 - 1 := by rw [h]
    rw [Int32.add_sub_cancel] at this
    rw [this]; rfl
  · rintro rfl; rfl
theorem rf_partOf (h : MAt M F A) (k : RelK (A 10) (A 12) (A 13) (A 14) κ) (s : RelS (A 16) σ) (w : WFK κ) (ws : WFS κ σ) {b : Nat} (hb : b < (σ.2 5).length) : fn_X10_partOf N M 389 (nI b) = some (dcI κ σ b, M) := by
  have ht := w.1.1
  have hl := s.2.1.2.2.2.2.2.1
  obtain ⟨t, t1, t2⟩ := ws.2.2.2.1 b hb
  obtain ⟨v1, v2, v3⟩ := s.2.2.2.2.2.2.2.1 b hb
  unfold fn_X10_partOf dcI
  generalize hR : (if (σ.2 7).getD b 0 = -1 then (0 : Int32) else ((σ.2 7).getD b 0 - (σ.2 6).getD b 0) * atI (κ.2 0) ((σ.2 5).getD b 0)) = R
  simp (disch := omega) only [MAt.ck h, MAt.i0 h, MAt.i2 h, MAt.i3 h, MAt.i4 h, MAt.i5 h, MAt.i6 h, MAt.i7 h, MAt.i8 h, MAt.i9 h, MAt.i15 h, MAt.i18 h, MAt.i21 h, MAt.i22 h, MAt.i23 h, MAt.i24 h, MAt.g1 h, MAt.n1 h, MAt.r1 h, MAt.l1 h, MAt.g10 h, MAt.n10 h, MAt.r10 h, MAt.l10 h, MAt.g11 h, MAt.n11 h, MAt.r11 h, MAt.l11 h, MAt.g12 h, MAt.n12 h, MAt.r12 h, MAt.l12 h, MAt.g13 h, MAt.n13 h, MAt.r13 h, MAt.l13 h, MAt.g14 h, MAt.n14 h, MAt.r14 h, MAt.l14 h, MAt.g16 h, MAt.n16 h, MAt.r16 h, MAt.l16 h, MAt.g17 h, MAt.n17 h, MAt.r17 h, MAt.l17 h, MAt.g19 h, MAt.n19 h, MAt.r19 h, MAt.l19 h, MAt.g20 h, MAt.n20 h, MAt.r20 h, MAt.l20 h, MAt.g25 h, MAt.n25 h, MAt.r25 h, MAt.l25 h, MAt.g26 h, MAt.n26 h, MAt.r26 h, MAt.l26 h, MAt.g27 h, MAt.n27 h, MAt.r27 h, MAt.l27 h, MAt.g28 h, MAt.n28 h, MAt.r28 h, MAt.l28 h, obs, b2s, lA, lB, lM, nI_add, pk_mul]
  rw [v1, v2, v3, t2]
  simp (disch := omega) only [MAt.ck h, MAt.i0 h, MAt.i2 h, MAt.i3 h, MAt.i4 h, MAt.i5 h, MAt.i6 h, MAt.i7 h, MAt.i8 h, MAt.i9 h, MAt.i15 h, MAt.i18 h, MAt.i21 h, MAt.i22 h, MAt.i23 h, MAt.i24 h, MAt.g1 h, MAt.n1 h, MAt.r1 h, MAt.l1 h, MAt.g10 h, MAt.n10 h, MAt.r10 h, MAt.l10 h, MAt.g11 h, MAt.n11 h, MAt.r11 h, MAt.l11 h, MAt.g12 h, MAt.n12 h, MAt.r12 h, MAt.l12 h, MAt.g13 h, MAt.n13 h, MAt.r13 h, MAt.l13 h, MAt.g14 h, MAt.n14 h, MAt.r14 h, MAt.l14 h, MAt.g16 h, MAt.n16 h, MAt.r16 h, MAt.l16 h, MAt.g17 h, MAt.n17 h, MAt.r17 h, MAt.l17 h, MAt.g19 h, MAt.n19 h, MAt.r19 h, MAt.l19 h, MAt.g20 h, MAt.n20 h, MAt.r20 h, MAt.l20 h, MAt.g25 h, MAt.n25 h, MAt.r25 h, MAt.l25 h, MAt.g26 h, MAt.n26 h, MAt.r26 h, MAt.l26 h, MAt.g27 h, MAt.n27 h, MAt.r27 h, MAt.l27 h, MAt.g28 h, MAt.n28 h, MAt.r28 h, MAt.l28 h, obs, b2s, lA, lB, lM, nI_add, pk_mul]
  rw [k.2.1 t t1 0 (by omega), ← hR, t2, atI_nI t1 (by omega)]
  by_cases e : (σ.2 7).getD b 0 = -1
  · rw [if_pos ((i32_p1 _).mpr e), if_pos e]
  · rw [if_neg (fun q => e ((i32_p1 _).mp q)), if_neg e, Int32.add_sub_cancel]
theorem rf_ds (h : MAt M F A) (k : RelK (A 10) (A 12) (A 13) (A 14) κ) (s : RelS (A 16) σ) (w : WFK κ) (ws : WFS κ σ) : ∀ (m i : Nat), i ≤ (σ.2 5).length → (σ.2 5).length - i < m → RW M (fn_X10_discrepancy_4 N m M 389 (dsS κ σ i) (nI i)) (fun r F' A' => r = dsS κ σ (σ.2 5).length ∧ F' = upd F 0 0 ∧ A' = A) := by
  have hl := s.2.1.2.2.2.2.2.1
  intro m
  induction m with
  | zero => intro i _ h; omega
  | succ m ih =>
    intro i hi hm
    rw [fn_X10_discrepancy_4.eq_2]
    simp (disch := omega) only [MAt.ck h, MAt.i0 h, MAt.i2 h, MAt.i3 h, MAt.i4 h, MAt.i5 h, MAt.i6 h, MAt.i7 h, MAt.i8 h, MAt.i9 h, MAt.i15 h, MAt.i18 h, MAt.i21 h, MAt.i22 h, MAt.i23 h, MAt.i24 h, MAt.g1 h, MAt.n1 h, MAt.r1 h, MAt.l1 h, MAt.g10 h, MAt.n10 h, MAt.r10 h, MAt.l10 h, MAt.g11 h, MAt.n11 h, MAt.r11 h, MAt.l11 h, MAt.g12 h, MAt.n12 h, MAt.r12 h, MAt.l12 h, MAt.g13 h, MAt.n13 h, MAt.r13 h, MAt.l13 h, MAt.g14 h, MAt.n14 h, MAt.r14 h, MAt.l14 h, MAt.g16 h, MAt.n16 h, MAt.r16 h, MAt.l16 h, MAt.g17 h, MAt.n17 h, MAt.r17 h, MAt.l17 h, MAt.g19 h, MAt.n19 h, MAt.r19 h, MAt.l19 h, MAt.g20 h, MAt.n20 h, MAt.r20 h, MAt.l20 h, MAt.g25 h, MAt.n25 h, MAt.r25 h, MAt.l25 h, MAt.g26 h, MAt.n26 h, MAt.r26 h, MAt.l26 h, MAt.g27 h, MAt.n27 h, MAt.r27 h, MAt.l27 h, MAt.g28 h, MAt.n28 h, MAt.r28 h, MAt.l28 h, obs, b2s, lA, lB, lM, nI_add, pk_mul]
    rw [s.1.2.2.2.2.1]
    by_cases he : i = (σ.2 5).length
    · subst he
      rw [if_pos (Int32.le_refl _)]
      refine RW.call (rf_told h _) ?_
      rintro r M' F' A' h' ⟨rfl, rfl, rfl⟩
      exact RW.ret h' ⟨rfl, rfl, rfl⟩
    · rw [if_neg (nI_ge (by omega) (by omega)), rf_partOf h k s w ws (b := i) (by omega), b2s]
      exact ih (i + 1) (by omega) (by omega)
theorem rf_discrepancy (hN : 2 ^ 15 ≤ N) (h : MAt M F A) (k : Rel F A bf κ σ U sn) (w : WF κ σ U sn) : RW M (fn_X10_discrepancy N M 389) (fun r F' A' => r = dsS κ σ (σ.2 5).length ∧ Qt F A F' A') := by
  have hl := k.2.2.1.2.1.2.2.2.2.2.1
  unfold fn_X10_discrepancy
  have := rf_ds (N := N) h k.2.1 k.2.2.1 w.1 w.2.1 N 0 (by omega) (by omega)
  rw [nI_0] at this
  refine this.imp ?_
  rintro r F' A' ⟨rfl, rfl, rfl⟩
  exact ⟨rfl, Qt.u0⟩
theorem rf_wb (h : MAt M F A) (k : RelK (A 10) (A 12) (A 13) (A 14) κ) (s : RelS (A 16) σ) (w : WFK κ) (ws : WFS κ σ) : ∀ (m i : Nat), i ≤ (σ.2 5).length → (σ.2 5).length - i < m → RW M (fn_X10_worstBag_7 N m M 389 (wbS κ σ i).1 (wbS κ σ i).2 (nI i)) (fun r F' A' => r = (wbS κ σ (σ.2 5).length).1 ∧ F' = upd F 0 0 ∧ A' = A) := by
  have hl := s.2.1.2.2.2.2.2.1
  intro m
  induction m with
  | zero => intro i _ h; omega
  | succ m ih =>
    intro i hi hm
    rw [fn_X10_worstBag_7.eq_2]
    simp (disch := omega) only [MAt.ck h, MAt.i0 h, MAt.i2 h, MAt.i3 h, MAt.i4 h, MAt.i5 h, MAt.i6 h, MAt.i7 h, MAt.i8 h, MAt.i9 h, MAt.i15 h, MAt.i18 h, MAt.i21 h, MAt.i22 h, MAt.i23 h, MAt.i24 h, MAt.g1 h, MAt.n1 h, MAt.r1 h, MAt.l1 h, MAt.g10 h, MAt.n10 h, MAt.r10 h, MAt.l10 h, MAt.g11 h, MAt.n11 h, MAt.r11 h, MAt.l11 h, MAt.g12 h, MAt.n12 h, MAt.r12 h, MAt.l12 h, MAt.g13 h, MAt.n13 h, MAt.r13 h, MAt.l13 h, MAt.g14 h, MAt.n14 h, MAt.r14 h, MAt.l14 h, MAt.g16 h, MAt.n16 h, MAt.r16 h, MAt.l16 h, MAt.g17 h, MAt.n17 h, MAt.r17 h, MAt.l17 h, MAt.g19 h, MAt.n19 h, MAt.r19 h, MAt.l19 h, MAt.g20 h, MAt.n20 h, MAt.r20 h, MAt.l20 h, MAt.g25 h, MAt.n25 h, MAt.r25 h, MAt.l25 h, MAt.g26 h, MAt.n26 h, MAt.r26 h, MAt.l26 h, MAt.g27 h, MAt.n27 h, MAt.r27 h, MAt.l27 h, MAt.g28 h, MAt.n28 h, MAt.r28 h, MAt.l28 h, obs, b2s, lA, lB, lM, nI_add, pk_mul]
    rw [s.1.2.2.2.2.1]
    by_cases he : i = (σ.2 5).length
    · subst he
      rw [if_pos (Int32.le_refl _)]
      refine RW.call (rf_told h _) ?_
      rintro r M' F' A' h' ⟨rfl, rfl, rfl⟩
      exact RW.ret h' ⟨rfl, rfl, rfl⟩
    · rw [if_neg (nI_ge (by omega) (by omega)), rf_partOf h k s w ws (b := i) (by omega), b2s, h.ck]
      simp only [obs, b2s, rf_partOf (N := N) h k s w ws (b := i) (show i < (σ.2 5).length by omega)]
      have step := ih (i + 1) (by omega) (by omega)
      have hr : wbS κ σ (i + 1) = if abI (dcI κ σ i) ≤ (wbS κ σ i).2 then wbS κ σ i else (nI i, abI (dcI κ σ i)) := rfl
      have main : RW M (fn_X10_worstBag_40 N (fn_X10_worstBag_7 N m) M 389 (wbS κ σ i).1 (wbS κ σ i).2 (nI i) (abI (dcI κ σ i))) (fun r F' A' => r = (wbS κ σ (σ.2 5).length).1 ∧ F' = upd F 0 0 ∧ A' = A) := by
        unfold fn_X10_worstBag_40 fn_X10_worstBag_56
        rw [nI_1]
        by_cases e : abI (dcI κ σ i) ≤ (wbS κ σ i).2
        · rw [if_pos e] at hr
          rw [if_neg (Int32.not_lt.mpr e), ← hr]
          exact step
        · rw [if_neg e] at hr
          rw [if_pos (Int32.not_le.mp e)]
          rw [hr] at step
          exact step
      unfold abI at main
      by_cases e : (0 : Int32) ≤ dcI κ σ i
      · rw [if_pos e]
        rw [if_pos e] at main
        exact main
      · rw [if_neg e]
        rw [if_neg e] at main
        exact main
theorem rf_worstBag (hN : 2 ^ 15 ≤ N) (h : MAt M F A) (k : Rel F A bf κ σ U sn) (w : WF κ σ U sn) : RW M (fn_X10_worstBag N M 389) (fun r F' A' => r = (wbS κ σ (σ.2 5).length).1 ∧ Qt F A F' A') := by
  have hl := k.2.2.1.2.1.2.2.2.2.2.1
  unfold fn_X10_worstBag
  have := rf_wb (N := N) h k.2.1 k.2.2.1 w.1 w.2.1 N 0 (by omega) (by omega)
  rw [nI_0] at this
  refine this.imp ?_
  rintro r F' A' ⟨rfl, rfl, rfl⟩
  exact ⟨rfl, Qt.u0⟩
theorem rf_costOf {l : Int32} (hl : l = -1 ∨ ∃ t, t < 8 ∧ l = nI t) (v : Int32) : fn_X10_costOf N M v l = some (csI l v, M) := by
  unfold fn_X10_costOf csI
  rcases hl with rfl | ⟨t, t1, rfl⟩
  · rw [if_neg (by decide), if_pos rfl]
    split <;> rfl
  · have e5 : ¬ nI t = -1 := by intro q; exact nI_pos (show t < 2 ^ 31 by omega) (by rw [q]; decide)
    rw [if_pos (nI_pos' (by omega)), if_neg e5]
    split
    · rfl
    · split <;> rfl
theorem WFS.lab (w : WFK κ) (ws : WFS κ σ) {i : Nat} (hi : i < (σ.2 9).length) : (σ.2 9).getD i 0 = -1 ∨ ∃ t, t < 8 ∧ (σ.2 9).getD i 0 = nI t := by
  have ht := w.1.1
  rcases ws.2.2.2.2.2.1 i hi with q | ⟨t, t1, t2⟩
  · exact Or.inl q
  · exact Or.inr ⟨t, by omega, t2⟩
theorem rf_smV (hN : 2 ^ 15 ≤ N) (h : MAt M F A) (k : RelK (A 10) (A 12) (A 13) (A 14) κ) (s : RelS (A 16) σ) (w : WFK κ) {i : Nat} (hi : i < (σ.2 8).length) (mg : Int32) (hm : Ng 0 2000 mg) : RW M (fn_X10_sampleVerdict N M 389 (nI i) mg) (fun r F' A' => r = smV κ σ mg i ∧ LkQ F A κ ((σ.2 8).getD i 0 / 10000 + σ.1 0) ((σ.2 8).getD i 0 - (σ.2 8).getD i 0 / 10000 * 10000 + σ.1 1) F' A') := by
  have hl := s.2.1.2.2.2.2.2.2.2.2.1
  obtain ⟨v1, v2, -⟩ := s.2.2.2.2.2.2.2.2 i hi
  unfold fn_X10_sampleVerdict
  simp (disch := omega) only [MAt.ck h, MAt.i0 h, MAt.i2 h, MAt.i3 h, MAt.i4 h, MAt.i5 h, MAt.i6 h, MAt.i7 h, MAt.i8 h, MAt.i9 h, MAt.i15 h, MAt.i18 h, MAt.i21 h, MAt.i22 h, MAt.i23 h, MAt.i24 h, MAt.g1 h, MAt.n1 h, MAt.r1 h, MAt.l1 h, MAt.g10 h, MAt.n10 h, MAt.r10 h, MAt.l10 h, MAt.g11 h, MAt.n11 h, MAt.r11 h, MAt.l11 h, MAt.g12 h, MAt.n12 h, MAt.r12 h, MAt.l12 h, MAt.g13 h, MAt.n13 h, MAt.r13 h, MAt.l13 h, MAt.g14 h, MAt.n14 h, MAt.r14 h, MAt.l14 h, MAt.g16 h, MAt.n16 h, MAt.r16 h, MAt.l16 h, MAt.g17 h, MAt.n17 h, MAt.r17 h, MAt.l17 h, MAt.g19 h, MAt.n19 h, MAt.r19 h, MAt.l19 h, MAt.g20 h, MAt.n20 h, MAt.r20 h, MAt.l20 h, MAt.g25 h, MAt.n25 h, MAt.r25 h, MAt.l25 h, MAt.g26 h, MAt.n26 h, MAt.r26 h, MAt.l26 h, MAt.g27 h, MAt.n27 h, MAt.r27 h, MAt.l27 h, MAt.g28 h, MAt.n28 h, MAt.r28 h, MAt.l28 h, obs, b2s, lA, lB, lM, nI_add, pk_mul]
  rw [v1, v2]
  refine RW.call (rf_verdict hN h k w s _ _ _ hm) ?_
  rintro r M1 F1 A1 h1 ⟨rfl, q⟩
  exact RW.ret h1 ⟨rfl, q⟩
theorem rf_ct (hN : 2 ^ 15 ≤ N) (k : RelK (A 10) (A 12) (A 13) (A 14) κ) (s : RelS (A 16) σ) (w : WFK κ) (ws : WFS κ σ) (mg : Int32) (hmg : Ng 0 2000 mg) : ∀ (m i : Nat) (M : Mem) (F : Nat → Int32), MAt M F A → i ≤ (σ.2 8).length → (σ.2 8).length - i < m → RW M (fn_X10_costWith_4 N m M 389 mg (ctS κ σ mg i) (nI i)) (fun r F' A' => r = ctS κ σ mg (σ.2 8).length ∧ A' = A ∧ F' 0 = F 0 ∧ F' 2 = F 2 ∧ F' 18 = F 18) := by
  have hl := s.2.1.2.2.2.2.2.2.2.2.1
  have hl9 := s.2.1.2.2.2.2.2.2.2.2.2
  intro m
  induction m with
  | zero => intro i M F _ _ h; omega
  | succ m ih =>
    intro i M F h hi hm
    rw [fn_X10_costWith_4.eq_2]
    simp (disch := omega) only [MAt.ck h, MAt.i0 h, MAt.i2 h, MAt.i3 h, MAt.i4 h, MAt.i5 h, MAt.i6 h, MAt.i7 h, MAt.i8 h, MAt.i9 h, MAt.i15 h, MAt.i18 h, MAt.i21 h, MAt.i22 h, MAt.i23 h, MAt.i24 h, MAt.g1 h, MAt.n1 h, MAt.r1 h, MAt.l1 h, MAt.g10 h, MAt.n10 h, MAt.r10 h, MAt.l10 h, MAt.g11 h, MAt.n11 h, MAt.r11 h, MAt.l11 h, MAt.g12 h, MAt.n12 h, MAt.r12 h, MAt.l12 h, MAt.g13 h, MAt.n13 h, MAt.r13 h, MAt.l13 h, MAt.g14 h, MAt.n14 h, MAt.r14 h, MAt.l14 h, MAt.g16 h, MAt.n16 h, MAt.r16 h, MAt.l16 h, MAt.g17 h, MAt.n17 h, MAt.r17 h, MAt.l17 h, MAt.g19 h, MAt.n19 h, MAt.r19 h, MAt.l19 h, MAt.g20 h, MAt.n20 h, MAt.r20 h, MAt.l20 h, MAt.g25 h, MAt.n25 h, MAt.r25 h, MAt.l25 h, MAt.g26 h, MAt.n26 h, MAt.r26 h, MAt.l26 h, MAt.g27 h, MAt.n27 h, MAt.r27 h, MAt.l27 h, MAt.g28 h, MAt.n28 h, MAt.r28 h, MAt.l28 h, obs, b2s, lA, lB, lM, nI_add, pk_mul]
    rw [s.1.2.2.2.2.2]
    by_cases he : i = (σ.2 8).length
    · subst he
      rw [if_pos (Int32.le_refl _)]
      exact RW.ret h ⟨rfl, rfl, rfl, rfl, rfl⟩
    · rw [if_neg (nI_ge (by omega) (by omega))]
      refine RW.call (rf_smV hN h k s w (i := i) (by omega) mg hmg) ?_
      rintro r M1 F1 A1 h1 ⟨rfl, rfl, q0, q2, q18, -⟩
      simp (disch := omega) only [MAt.ck h1, MAt.i0 h1, MAt.i2 h1, MAt.i3 h1, MAt.i4 h1, MAt.i5 h1, MAt.i6 h1, MAt.i7 h1, MAt.i8 h1, MAt.i9 h1, MAt.i15 h1, MAt.i18 h1, MAt.i21 h1, MAt.i22 h1, MAt.i23 h1, MAt.i24 h1, MAt.g1 h1, MAt.n1 h1, MAt.r1 h1, MAt.l1 h1, MAt.g10 h1, MAt.n10 h1, MAt.r10 h1, MAt.l10 h1, MAt.g11 h1, MAt.n11 h1, MAt.r11 h1, MAt.l11 h1, MAt.g12 h1, MAt.n12 h1, MAt.r12 h1, MAt.l12 h1, MAt.g13 h1, MAt.n13 h1, MAt.r13 h1, MAt.l13 h1, MAt.g14 h1, MAt.n14 h1, MAt.r14 h1, MAt.l14 h1, MAt.g16 h1, MAt.n16 h1, MAt.r16 h1, MAt.l16 h1, MAt.g17 h1, MAt.n17 h1, MAt.r17 h1, MAt.l17 h1, MAt.g19 h1, MAt.n19 h1, MAt.r19 h1, MAt.l19 h1, MAt.g20 h1, MAt.n20 h1, MAt.r20 h1, MAt.l20 h1, MAt.g25 h1, MAt.n25 h1, MAt.r25 h1, MAt.l25 h1, MAt.g26 h1, MAt.n26 h1, MAt.r26 h1, MAt.l26 h1, MAt.g27 h1, MAt.n27 h1, MAt.r27 h1, MAt.l27 h1, MAt.g28 h1, MAt.n28 h1, MAt.r28 h1, MAt.l28 h1, obs, b2s, lA, lB, lM, nI_add, pk_mul]
      rw [(s.2.2.2.2.2.2.2.2 i (by omega)).2.2, rf_costOf (ws.lab w (by omega)), b2s]
      refine (ih (i + 1) M1 F1 h1 (by omega) (by omega)).imp ?_
      rintro r F' A' ⟨p1, p2, p3, p4, p5⟩
      exact ⟨p1, p2, p3.trans q0, p4.trans q2, p5.trans q18⟩
theorem rf_sampleCost (hN : 2 ^ 15 ≤ N) (h : MAt M F A) (k : Rel F A bf κ σ U sn) (w : WF κ σ U sn) (x : Int32) : RW M (fn_X10_sampleCost N M 389 x) (fun r F' A' => r = (if x < 0 then -1 else if 2000 < x then -1 else ctS κ σ x (σ.2 8).length) ∧ Qt F A F' A') := by
  have hl := k.2.2.1.2.1.2.2.2.2.2.2.2.2.1
  unfold fn_X10_sampleCost
  rw [L0, L2000, ev_within, b2s]
  by_cases hx : 0 ≤ x ∧ x ≤ 2000
  · rw [if_pos hx, if_neg (by decide), if_neg (Int32.not_lt.mpr hx.1), if_neg (Int32.not_lt.mpr hx.2), h.ck, obs]
    have hng : Ng 0 2000 x := by
      obtain ⟨j, j1, j2⟩ := nI_of2 (x := x) (M := 2000) (n := 2000) rfl (Int32.not_lt.mpr hx.1) hx.2
      exact ⟨j, by omega, j1, j2⟩
    unfold fn_X10_costWith
    have := rf_ct (N := N) hN k.2.1 k.2.2.1 w.1 w.2.1 x hng N 0 M F h (by omega) (by omega)
    rw [nI_0] at this
    refine RW.call this ?_
    rintro r M1 F1 A1 h1 ⟨rfl, rfl, q0, q2, q18⟩
    rw [h1.ck, obs]
    refine RW.call (rf_told h1 _) ?_
    rintro r M' F' A' h' ⟨rfl, rfl, rfl⟩
    exact RW.ret h' ⟨rfl, ⟨q2, q18, rfl, rfl, rfl, rfl, rfl, rfl, rfl, rfl, rfl⟩⟩
  · rw [if_neg hx, if_pos rfl, h.ck, obs]
    refine RW.call (rf_told h _) ?_
    rintro r M' F' A' h' ⟨rfl, rfl, rfl⟩
    refine RW.ret h' ⟨?_, Qt.u0⟩
    by_cases h1 : x < 0
    · rw [if_pos h1]
    · by_cases h2 : 2000 < x
      · rw [if_neg h1, if_pos h2]
      · exact absurd ⟨Int32.not_lt.mp h1, Int32.not_lt.mp h2⟩ hx
end RS
