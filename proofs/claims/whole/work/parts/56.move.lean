/-! PURE: a step: what it does; the class's side -/
def mv1 (κ : Cf) (σ : St) (o : Int32) : St := match nlI κ σ with
  | some k => (σ.1, va_up σ.2 1 ((σ.2 1).eraseIdx k))
  | none => if o = 20 then (σ.1, va_up (va_up σ.2 0 ((σ.2 0).eraseIdx 0)) 1 (σ.2 1 ++ [nvI κ σ ((σ.2 0).getD 0 0)])) else (σ.1, va_up σ.2 0 ((σ.2 0).eraseIdx 0))
def mv2 (σ : St) (o : Int32) : St := if o = 24 then (upd σ.1 3 1, σ.2) else if o ≤ 20 then (if 20 ≤ o then σ else (σ.1, va_up σ.2 2 ((σ.2 2).set o.toNatClampNeg ((σ.2 2).getD o.toNatClampNeg 0 + 1)))) else (σ.1, va_up σ.2 3 ((σ.2 3).set (rejI o).toNatClampNeg ((σ.2 3).getD (rejI o).toNatClampNeg 0 + 1)))
def mv3 (σ : St) (o : Int32) : St := (upd σ.1 4 (σ.1 4 + 1), va_up σ.2 4 (addRec (σ.2 4) o))
def mvI (κ : Cf) (σ : St) (o : Int32) : St := mv3 (mv2 (mv1 κ σ o) o) o
theorem mv1_some {κ : Cf} {σ : St} {o : Int32} {k : Nat} (h : nlI κ σ = some k) : mv1 κ σ o = (σ.1, va_up σ.2 1 ((σ.2 1).eraseIdx k)) := by unfold mv1; rw [h]
theorem mv1_20 {κ : Cf} {σ : St} (h : nlI κ σ = none) : mv1 κ σ 20 = (σ.1, va_up (va_up σ.2 0 ((σ.2 0).eraseIdx 0)) 1 (σ.2 1 ++ [nvI κ σ ((σ.2 0).getD 0 0)])) := by unfold mv1; rw [h, if_pos rfl]
theorem mv1_no {κ : Cf} {σ : St} {o : Int32} (h : nlI κ σ = none) (ho : ¬ o = 20) : mv1 κ σ o = (σ.1, va_up σ.2 0 ((σ.2 0).eraseIdx 0)) := by unfold mv1; rw [h, if_neg ho]
theorem mv2_24 {σ : St} : mv2 σ 24 = (upd σ.1 3 1, σ.2) := by unfold mv2; rw [if_pos rfl]
theorem mv2_20 {σ : St} : mv2 σ 20 = σ := by unfold mv2; rw [if_neg (by decide), if_pos (by decide), if_pos (by decide)]
theorem nI_n24 {b : Nat} (h : b < 20) : ¬ nI b = 24 ∧ nI b ≤ 20 ∧ ¬ 20 ≤ nI b ∧ ¬ nI b = 20 ∧ ¬ nI b = -2 ∧ ¬ nI b = 30 ∧ nI b < 21 := by
  refine ⟨fun q => ?_, nI_le (b := 20) (by omega) (by omega), nI_ge (b := 20) h (by omega), fun q => ?_, fun q => ?_, fun q => ?_, nI_lt (b := 21) (by omega) (by omega)⟩
  · have := (nI_eq (a := b) (b := 24) (by omega) (by omega)).mp q; omega
  · have := (nI_eq (a := b) (b := 20) (by omega) (by omega)).mp q; omega
  · exact nI_pos (show b < 2 ^ 31 by omega) (by rw [q]; decide)
  · have := (nI_eq (a := b) (b := 30) (by omega) (by omega)).mp q; omega
theorem mv2_b {σ : St} {b : Nat} (h : b < 20) : mv2 σ (nI b) = (σ.1, va_up σ.2 2 ((σ.2 2).set b ((σ.2 2).getD b 0 + 1))) := by
  obtain ⟨h1, h2, h3, -⟩ := nI_n24 h
  unfold mv2
  rw [if_neg h1, if_pos h2, if_neg h3, nI_clamp (by omega)]
theorem mv2_r {σ : St} {j : Nat} (h : j < 3) : mv2 σ (nI (21 + j)) = (σ.1, va_up σ.2 3 ((σ.2 3).set j ((σ.2 3).getD j 0 + 1))) := by
  unfold mv2
  have e : rejI (nI (21 + j)) = nI j := by
    unfold rejI
    rw [if_neg (by rw [lGt (by decide) (by omega)]; omega), if_neg (by rw [lLt (by decide) (by omega)]; omega), lS (by omega)]
    congr 1
    omega
  rw [if_neg (by intro q; have := (nI_eq (a := 21 + j) (b := 24) (by omega) (by omega)).mp q; omega), if_neg (show ¬ nI (21 + j) ≤ 20 from nI_ge (a := 20) (b := 21 + j) (by omega) (by omega)), e, nI_clamp (by omega)]
/-- what an outcome that is a step can be -/
def StepK (κ : Cf) (σ : St) (o : Int32) : Prop := (∃ k b, nlI κ σ = some k ∧ k < (σ.2 1).length ∧ b < (κ.2 10).length ∧ o = nI b ∧ ¬ needI κ σ b ≤ 0) ∨ (nlI κ σ = none ∧ 0 < (σ.2 0).length ∧ ((∃ b, b < (κ.2 10).length ∧ o = nI b ∧ ¬ needI κ σ b ≤ 0) ∨ (∃ j, j < 3 ∧ o = nI (21 + j)) ∨ o = 24 ∨ (o = 20 ∧ ¬ κ.1 1 ≤ nI (σ.2 1).length ∧ ∃ t, t < (κ.2 0).length ∧ nvI κ σ ((σ.2 0).getD 0 0) = nI t)))
theorem nx_step {κ : Cf} {σ : St} (w : WFK κ) (h2 : ¬ nxI κ σ = -2) (h30 : ¬ nxI κ σ = 30) : StepK κ σ (nxI κ σ) := by
  have hb := w.1.2.2.2.2.1
  have g : ¬ σ.1 3 = 1 := fun q => h2 (nxI_jam q)
  rcases hn : nlI κ σ with _ | k
  · right
    revert h2 h30
    rw [nxI_none g hn]
    by_cases h0 : (σ.2 0).length = 0
    · rw [if_pos h0]; intro q; exact absurd rfl q
    · rw [if_neg h0]
      intro h2 h30
      refine ⟨hn, by omega, ?_⟩
      revert h2 h30
      by_cases hg : (σ.2 0).getD 0 0 / 10000 ≤ κ.1 0
      · rw [if_pos hg]
        rcases vd_form κ ((σ.2 0).getD 0 0 / 10000 + σ.1 0) ((σ.2 0).getD 0 0 - (σ.2 0).getD 0 0 / 10000 * 10000 + σ.1 1) (σ.1 2) with q | ⟨t, t1, t2⟩
        · have hv : nvI κ σ ((σ.2 0).getD 0 0) = 21 ∨ nvI κ σ ((σ.2 0).getD 0 0) = 22 ∨ nvI κ σ ((σ.2 0).getD 0 0) = 23 := q
          rw [if_neg (by rcases hv with e | e | e <;> rw [e] <;> decide)]
          intro _ _
          right; left
          rcases hv with e | e | e
          · exact ⟨0, by omega, e⟩
          · exact ⟨1, by omega, e⟩
          · exact ⟨2, by omega, e⟩
        · have hv : nvI κ σ ((σ.2 0).getD 0 0) = nI t := t2
          rw [hv]
          have h8 := w.1.1
          rw [if_pos (nI_n24 (show t < 20 by omega)).2.2.2.2.2.2]
          by_cases hh : hbI κ (nI t) = true
          · rw [if_pos hh]
            rcases rmI_form κ σ (nI t) hb with ⟨q1, q2⟩ | ⟨j, j1, j2, j3, j4, j5⟩
            · rw [if_pos q1]
              by_cases hc : κ.1 1 ≤ nI (σ.2 1).length
              · rw [if_pos hc]; intro _ q; exact absurd rfl q
              · rw [if_neg hc]
                intro _ _
                right; right; right
                exact ⟨rfl, hc, t, t1, rfl⟩
            · rw [if_neg j5]
              intro _ _
              left
              exact ⟨j, j1, j2, j4⟩
          · rw [if_neg hh]
            intro _ _
            right; left
            exact ⟨2, by omega, rfl⟩
      · rw [if_neg hg]
        intro _ _
        right; right; left
        rfl
  · left
    obtain ⟨k1, k2⟩ := nlN_some _ (Nat.le_refl _) hn
    rcases rmI_form κ σ ((σ.2 1).getD k 0) hb with ⟨q, -⟩ | ⟨i, i1, i2, i3, i4, i5⟩
    · exact absurd q k2
    · exact ⟨k, i, hn, k1, i1, by rw [nxI_some g hn]; exact i2, i4⟩
section XP
variable {N : Nat} {M : Mem} {bf : List Int32} {κ : Cf} {σ : St} {U : List St} {sn : Nat → Option St}
theorem x_mv3 (h : XAt M bf κ σ U sn) (hN : 2 ^ 15 ≤ N) (o : Int32) : XO bf κ sn M (fn_X9_move_132 N M 0 o) ((), mv3 σ o, U) := by
  unfold fn_X9_move_132
  obtain ⟨s1, hS⟩ := h.st
  rw [s1, obs, hS.gI (show 4 < 5 by decide), obs]
  refine XO.num h (by decide) (by decide) fun M1 h1 => ?_
  obtain ⟨s1, hS⟩ := h1.st
  obtain ⟨M2, e2, g2, f2⟩ := st_rec (N := N) hS o hN
  rw [s1, obs, hS.ck, obs, e2, b2s]
  exact ⟨M2, rfl, h1.setSt g2 (f2.mono (by omega) (by omega)), f2.mono (by omega) (by omega)⟩
theorem x_mv2 (h : XAt M bf κ σ U sn) (hN : 2 ^ 15 ≤ N) (l2 : (σ.2 2).length ≤ 8) (l3 : (σ.2 3).length = 4) {o : Int32} (ho : (∃ b, b < (σ.2 2).length ∧ o = nI b) ∨ (∃ j, j < 3 ∧ o = nI (21 + j)) ∨ o = 24 ∨ o = 20) : XO bf κ sn M (fn_X9_move_73 N M 0 o) ((), mv3 (mv2 σ o) o, U) := by
  unfold fn_X9_move_73
  obtain ⟨s1, hS⟩ := h.st
  rcases ho with ⟨b, hb, rfl⟩ | ⟨j, hj, rfl⟩ | rfl | rfl
  · obtain ⟨h1, h2, h3, -⟩ := nI_n24 (show b < 20 by omega)
    rw [if_neg h1, if_pos h2, if_neg h3, s1, obs, hS.g2, obs, row_ck hS.r2, obs, mv2_b (by omega)]
    exact XO.inc2 h hb fun M1 h1 => x_mv3 h1 hN _
  · rw [if_neg (by intro q; have := (nI_eq (a := 21 + j) (b := 24) (by omega) (by omega)).mp q; omega), if_neg (show ¬ nI (21 + j) ≤ 20 from nI_ge (a := 20) (b := 21 + j) (by omega) (by omega)), s1, obs, hS.g3, obs, ev_rejI, b2s, row_ck hS.r3, obs, mv2_r hj]
    have e : rejI (nI (21 + j)) = nI j := by
      unfold rejI
      rw [if_neg (by rw [lGt (by decide) (by omega)]; omega), if_neg (by rw [lLt (by decide) (by omega)]; omega), lS (by omega)]
      congr 1
      omega
    rw [e]
    exact XO.inc3 h (by omega) fun M1 h1 => x_mv3 h1 hN _
  · rw [if_pos rfl, s1, obs, mv2_24]
    exact XO.numZ h (Or.inr rfl) fun M1 h1 => x_mv3 h1 hN _
  · rw [if_neg (by decide), if_pos (by decide), if_pos (by decide), mv2_20]
    exact x_mv3 h hN _
theorem cap20 {c : Int32} {n : Nat} (h : Ng 0 20 c) (hn : n ≤ 20) (hc : ¬ c ≤ nI n) : n < 20 := by
  obtain ⟨m, m1, m2, rfl⟩ := h
  by_cases q : n < m
  · omega
  · exact absurd (nI_le (by omega) (by omega)) hc
theorem x_move (h : XAt M bf κ σ U sn) (hN : 2 ^ 15 ≤ N) (w : WFK κ) (ws : WFS κ σ) (l3 : (σ.2 3).length = 4) {o : Int32} (ho : StepK κ σ o) : XO bf κ sn M (fn_X9_move N M 0 o) ((), mvI κ σ o, U) := by
  have h8 := w.1.2.2.2.2.1
  have hs := ws.1
  unfold fn_X9_move mvI
  rw [h.ck, obs, x_nextInLoop h hN w ws, b2s]
  obtain ⟨s1, hS⟩ := h.st
  have hl1 := (row_len hS.r1).1
  have hl2 := (row_len hS.r2).1
  rcases ho with ⟨k, b, hn, k1, b1, rfl, -⟩ | ⟨hn, h0, ho⟩
  · rw [hn, mv1_some hn]
    have e5 : ¬ nlv (some k) = -2 := by
      show ¬ nI k = -2
      intro q
      exact nI_pos (show k < 2 ^ 31 by omega) (by rw [q]; decide)
    rw [if_neg e5, s1, obs, hS.g1, obs, row_ck hS.r1, obs, show nlv (some k) = nI k from rfl]
    exact XO.rem1 hN h k1 fun M1 h1 => x_mv2 h1 hN hl2 l3 (Or.inl ⟨b, by show b < (σ.2 2).length; omega, rfl⟩)
  · rw [hn, if_pos (show nlv none = -2 from rfl), s1, obs, hS.g0, obs, row_ck hS.r0, obs]
    have e0 : (0 : Int32) = nI 0 := rfl
    rw [e0]
    refine XO.rem0 hN h h0 fun M1 h1 => ?_
    have nn : ¬ o = 20 → XO bf κ sn M1 (fn_X9_move_73 N M1 0 o) ((), mv3 (mv2 (mv1 κ σ o) o) o, U) := by
      intro hne
      rw [mv1_no hn hne]
      refine x_mv2 h1 hN hl2 l3 ?_
      rcases ho with ⟨b, b1, b2, -⟩ | q | q | ⟨q, -⟩
      · exact Or.inl ⟨b, by show b < (σ.2 2).length; omega, b2⟩
      · exact Or.inr (Or.inl q)
      · exact Or.inr (Or.inr (Or.inl q))
      · exact absurd q hne
    by_cases hne : o = 20
    · subst hne
      rw [if_pos rfl]
      obtain ⟨s1, hS⟩ := h1.st
      have hcap : ¬ κ.1 1 ≤ nI (σ.2 1).length := by
        rcases ho with ⟨b, b1, b2, -⟩ | ⟨j, j1, j2⟩ | q | ⟨-, q, -⟩
        · exact absurd b2.symm (nI_n24 (show b < 20 by omega)).2.2.2.1
        · have := (nI_eq (a := 20) (b := 21 + j) (by omega) (by omega)).mp j2; omega
        · exact absurd q (by decide)
        · exact q
      have hlt := cap20 w.2.2.2.2.2.1 hl1 hcap
      rw [s1, obs, hS.g1, obs, ev_dOf, b2s, ev_aOf, b2s, s1, obs, hS.gI (show 2 < 5 by decide), obs, h1.ck, obs]
      obtain ⟨M2, e2, h2, f2, -⟩ := x_verdict (N := N) h1 hN ((σ.2 0).getD 0 0 / 10000) ((σ.2 0).getD 0 0 - (σ.2 0).getD 0 0 / 10000 * 10000) (σ.1 2)
      have e2' : fn_X9_verdict N M1 0 ((σ.2 0).getD 0 0 / 10000) ((σ.2 0).getD 0 0 - (σ.2 0).getD 0 0 / 10000 * 10000) (σ.1 2) = some (nvI κ σ ((σ.2 0).getD 0 0), M2) := e2
      rw [show (σ.1, va_up σ.2 0 ((σ.2 0).eraseIdx 0)).1 2 = σ.1 2 from rfl, e2', b2s]
      refine XO.fr (f2.mono (by omega) (by omega)) ?_
      obtain ⟨s1, hS⟩ := h2.st
      rw [row_ck hS.r1, obs, mv1_20 hn]
      exact XO.add1 h2 hlt fun M3 h3 => x_mv2 h3 hN hl2 l3 (Or.inr (Or.inr (Or.inr rfl)))
    · rw [if_neg hne]
      exact nn hne
theorem x_step (h : XAt M bf κ σ U sn) (hN : 2 ^ 15 ≤ N) (w : WFK κ) (ws : WFS κ σ) (l3 : (σ.2 3).length = 4) : XO bf κ sn M (fn_X9_step N M 0) (if nxI κ σ = -2 ∨ nxI κ σ = 30 then (-2, σ, U) else (nxI κ σ, mvI κ σ (nxI κ σ), pushU σ U)) := by
  unfold fn_X9_step
  obtain ⟨M1, e1, h1, f1⟩ := x_nextOutcome (N := N) h hN w ws
  rw [h.ck, obs, e1, b2s]
  refine XO.fr (f1.mono (by omega) (by omega)) ?_
  by_cases g : nxI κ σ = -2 ∨ nxI κ σ = 30
  · have e : unst (nxI κ σ) = -2 := by
      unfold unst
      rcases g with g | g
      · rw [g]; decide
      · rw [if_pos g]
    rw [if_pos g, e, if_pos rfl]
    exact XO.ret h1 rfl
  · have g2 : ¬ nxI κ σ = -2 := fun q => g (Or.inl q)
    have g30 : ¬ nxI κ σ = 30 := fun q => g (Or.inr q)
    have e : unst (nxI κ σ) = nxI κ σ := by unfold unst; rw [if_neg g30]
    rw [if_neg g, e, if_neg g2]
    refine XO.push h1 fun M2 h2 => ?_
    obtain ⟨M3, e3, h3, f3⟩ := x_move (N := N) h2 hN w ws l3 (nx_step w g2 g30)
    rw [h2.ck, obs, e3, b2s]
    exact ⟨M3, rfl, h3, f3⟩
end XP
