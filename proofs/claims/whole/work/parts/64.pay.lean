/-! PURE: payouts on both sides; dispense -/
theorem DG_inj {s n n' : Nat → Nat} : ∀ r t, (∀ u, t ≤ u → u < t + r → n u ≤ s u) → (∀ u, t ≤ u → u < t + r → n' u ≤ s u) → DG s n t r = DG s n' t r → ∀ u, t ≤ u → u < t + r → n u = n' u := by
  intro r
  induction r with
  | zero => intro t _ _ _ u h1 h2; omega
  | succ r ih =>
    intro t h1 h2 e u u1 u2
    obtain ⟨a1, a2⟩ := DG_digit h1
    obtain ⟨b1, b2⟩ := DG_digit h2
    rw [e] at a1 a2
    by_cases q : u = t
    · subst q; rw [← a1, b1]
    · exact ih (t + 1) (fun u h3 h4 => h1 u (by omega) (by omega)) (fun u h3 h4 => h2 u (by omega) (by omega)) (by rw [← a2, b2]) u (by omega) (by omega)
theorem light_inj {s v n n' : Nat → Nat} {a : Nat} (h : PayV s v n 0 8 a) (h' : PayV s v n' 0 8 a) (e : WT s n = WT s n') : ∀ u, u < 8 → n u = n' u := by
  obtain ⟨c1, c2⟩ := WT_count (s := s) (n := n) (fun u hu => h.1 u (by omega) (by omega))
  obtain ⟨d1, d2⟩ := WT_count (s := s) (n := n') (fun u hu => h'.1 u (by omega) (by omega))
  rw [e] at c1 c2
  have e1 : SR n 0 8 = SR n' 0 8 := by rw [← c1, d1]
  have e2 : DG s n 0 8 = DG s n' 0 8 := by rw [← c2, ← d2, e1]
  exact fun u hu => DG_inj 8 0 h.1 h'.1 e2 u (by omega) (by omega)
theorem rgL_congr {f g : Nat → Int32} {n : Nat} (h : ∀ i, i < n → f i = g i) : rgL f n = rgL g n := by
  unfold rgL
  exact List.map_congr_left (fun i hi => h i (List.mem_range.mp hi))
theorem getD_ext {l l' : List Int32} (hl : l.length = l'.length) (h : ∀ i, i < l.length → l.getD i 0 = l'.getD i 0) : l = l' := by
  refine List.ext_getElem hl (fun i h1 h2 => ?_)
  have := h i h1
  simpa [List.getD_eq_getElem?_getD, h1, h2] using this
theorem rgL_self {l : List Int32} {n : Nat} (h : l.length = n) : l = rgL (fun i => l.getD i 0) n := by
  refine getD_ext (by rw [rgL_len, h]) (fun i hi => ?_)
  rw [rgL_get (by omega)]
theorem rgL_set {f : Nat → Int32} {n j : Nat} {x : Int32} : (rgL f n).set j x = rgL (fun i => if i = j then x else f i) n := by
  refine getD_ext (by rw [List.length_set, rgL_len, rgL_len]) (fun i hi => ?_)
  rw [List.length_set, rgL_len] at hi
  rw [rgL_get hi]
  by_cases e : i = j
  · subst e
    rw [if_pos rfl]
    simp [List.getD_eq_getElem?_getD, rgL_len, hi]
  · rw [if_neg e, ← rgL_get (f := f) hi]
    simp [List.getD_eq_getElem?_getD, List.getElem?_set_ne (Ne.symm e)]
/-- the plan of a payout, uniquely -/
theorem PlanR.uniq {κ : Cf} {σ : St} {am : Nat} {r r' : Int32} {lc lc' : List Int32} (h : PlanR κ σ am r lc) (h' : PlanR κ σ am r' lc') : r = r' ∧ (r = -2 ∨ lc = lc') := by
  rcases h with ⟨rfl, h⟩ | ⟨n, n1, n2, rfl, rfl⟩
  · rcases h' with ⟨rfl, -⟩ | ⟨n', n1', -⟩
    · exact ⟨rfl, Or.inl rfl⟩
    · exact absurd n1' (h n')
  · rcases h' with ⟨rfl, h'⟩ | ⟨n', n1', n2', rfl, rfl⟩
    · exact absurd n1 (h' n)
    · have e := light_inj n1 n1' (Nat.le_antisymm (n2 _ n1') (n2' _ n1))
      refine ⟨?_, Or.inr (rgL_congr fun i hi => by rw [e i hi])⟩
      rw [SR_congr 8 0 (fun u _ hu => e u (by omega))]
theorem GrV.plan {κ : Cf} {σ : St} {am : Nat} {n : Nat → Nat} (h : GrV (stA κ σ) (vN κ) n 0 8 am) : PlanR κ σ am (nI (SR n 0 8)) (rgL (fun u => nI (n u)) 8) := Or.inr ⟨n, (h.pay).1, fun q hq => h.light hq, rfl, rfl⟩
theorem nI_nm2 {n : Nat} (h : n < 2 ^ 31) : ¬ nI n = -2 := by
  intro q
  have := nI_pos' h
  rw [q] at this
  exact absurd this (by decide)
/-- the answers, as relations -/
def PcR (κ : Cf) (σ : St) (x r : Int32) : Prop := if 1 ≤ x ∧ x ≤ 5000 then ∃ lc, PlanR κ σ x.toNatClampNeg r lc else r = -1
def PoR (κ : Cf) (σ : St) (x y r : Int32) : Prop := if 1 ≤ x ∧ x ≤ 5000 then (if hasI (κ.2 0).length y then ∃ r0 lc, PlanR κ σ x.toNatClampNeg r0 lc ∧ r = if r0 = -2 then -2 else atI lc y else r = -1) else r = -1
theorem PcR.uniq {κ : Cf} {σ : St} {x r r' : Int32} (h : PcR κ σ x r) (h' : PcR κ σ x r') : r = r' := by
  unfold PcR at h h'
  by_cases g : 1 ≤ x ∧ x ≤ 5000
  · rw [if_pos g] at h h'
    obtain ⟨lc, h⟩ := h
    obtain ⟨lc', h'⟩ := h'
    exact (h.uniq h').1
  · rw [if_neg g] at h h'
    rw [h, h']
theorem PoR.uniq {κ : Cf} {σ : St} {x y r r' : Int32} (h : PoR κ σ x y r) (h' : PoR κ σ x y r') : r = r' := by
  unfold PoR at h h'
  by_cases g : 1 ≤ x ∧ x ≤ 5000
  · rw [if_pos g] at h h'
    by_cases g2 : hasI (κ.2 0).length y = true
    · rw [if_pos g2] at h h'
      obtain ⟨r0, lc, h, rfl⟩ := h
      obtain ⟨r0', lc', h', rfl⟩ := h'
      obtain ⟨rfl, e⟩ := h.uniq h'
      rcases e with e | e
      · rw [if_pos e, if_pos e]
      · rw [e]
    · rw [if_neg g2] at h h'
      rw [h, h']
  · rw [if_neg g] at h h'
    rw [h, h']
theorem amt_of {x : Int32} (g : 1 ≤ x ∧ x ≤ 5000) : ∃ am, 1 ≤ am ∧ am ≤ 5000 ∧ x = nI am := by
  obtain ⟨n, n1, rfl⟩ := nI_of2 (x := x) (M := 5000) (n := 5000) rfl (by intro q; have := Int32.lt_iff_toInt_lt.mp q; have h1 := Int32.le_iff_toInt_le.mp g.1; rw [show (1 : Int32).toInt = 1 from rfl] at h1; rw [show (0 : Int32).toInt = 0 from rfl] at this; omega) g.2
  exact ⟨n, (lLe (m := 1) (n := n) (by decide) (by omega)).mp g.1, n1, rfl⟩
section PZ
variable {N : Nat} {M : Mem} {F : Nat → Int32} {A : Nat → Nat → Int32} {bf : List Int32} {κ : Cf} {σ : St} {U : List St} {sn : Nat → Option St}
theorem ev_isAmount (x : Int32) : fn_X9_isAmount N M x = some (if 1 ≤ x ∧ x ≤ 5000 then 1 else 0, M) := by
  unfold fn_X9_isAmount
  by_cases h1 : x < 1
  · rw [if_pos h1, if_neg (fun q => absurd h1 (Int32.not_lt.mpr q.1))]
  · rw [if_neg h1]
    by_cases h2 : 5000 < x
    · rw [if_pos h2, if_neg (fun q => absurd h2 (Int32.not_lt.mpr q.2))]
    · rw [if_neg h2, if_pos ⟨Int32.not_lt.mp h1, Int32.not_lt.mp h2⟩]
theorem x_payoutCoins (h : XAt M bf κ σ U sn) (hN : 2 ^ 15 ≤ N) (w : WFK κ) (ws : WFS κ σ) (x : Int32) : ∃ M' r, fn_X9_payoutCoins N M 0 x = some (r, M') ∧ XAt M' bf κ σ U sn ∧ Fr M M' 377 389 ∧ PcR κ σ x r := by
  unfold fn_X9_payoutCoins PcR
  rw [ev_isAmount, b2s]
  by_cases g : 1 ≤ x ∧ x ≤ 5000
  · obtain ⟨am, a1, a2, rfl⟩ := amt_of g
    simp only [if_pos g, if_neg (show ¬ (1 : Int32) = 0 by decide)]
    obtain ⟨M', r, st, pl, wt, wh, lc, e, h', hf, -, hp⟩ := x_plan h hN w ws a2
    rw [h.ck, obs, e, b2s, nI_clamp (by omega)]
    exact ⟨M', r, rfl, h', hf.mono (by omega) (by omega), lc, hp⟩
  · simp only [if_neg g]
    exact ⟨M, -1, rfl, h, Fr.rf, rfl⟩
theorem x_payoutOf (h : XAt M bf κ σ U sn) (hN : 2 ^ 15 ≤ N) (w : WFK κ) (ws : WFS κ σ) (x y : Int32) : ∃ M' r, fn_X9_payoutOf N M 0 x y = some (r, M') ∧ XAt M' bf κ σ U sn ∧ Fr M M' 377 389 ∧ PoR κ σ x y r := by
  unfold fn_X9_payoutOf PoR
  rw [ev_isAmount, b2s]
  by_cases g : 1 ≤ x ∧ x ≤ 5000
  · obtain ⟨am, a1, a2, rfl⟩ := amt_of g
    simp only [if_pos g, if_neg (show ¬ (1 : Int32) = 0 by decide)]
    rw [h.ck, obs, x_isType h, b2s]
    by_cases g2 : hasI (κ.2 0).length y = true
    · simp only [if_pos g2, if_neg (show ¬ (1 : Int32) = 0 by decide)]
      obtain ⟨M', r, st, pl, wt, wh, lc, e, h', hf, hP, hp⟩ := x_plan h hN w ws a2
      rw [h.ck, obs, e, b2s, nI_clamp (by omega)]
      by_cases g3 : r = -2
      · rw [if_pos g3]
        exact ⟨M', -2, rfl, h', hf.mono (by omega) (by omega), r, lc, hp, by rw [if_pos g3]⟩
      · rw [if_neg g3, h'.py, obs, ev_gR hP.1 rfl, obs, row_ck hP.2.2.2.2, obs, row_at hP.2.2.2.2, b2s]
        exact ⟨M', _, rfl, h', hf.mono (by omega) (by omega), r, lc, hp, by rw [if_neg g3]⟩
    · simp only [if_neg g2]
      exact ⟨M, -1, rfl, h, Fr.rf, rfl⟩
  · simp only [if_neg g]
    exact ⟨M, -1, rfl, h, Fr.rf, rfl⟩
theorem rf_payoutCoins (hN : 2 ^ 15 ≤ N) (h : MAt M F A) (k : Rel F A bf κ σ U sn) (w : WF κ σ U sn) (x : Int32) : RW M (fn_X10_payoutCoins N M 389 x) (fun r F' A' => PcR κ σ x r ∧ Qt F A F' A') := by
  unfold fn_X10_payoutCoins PcR
  refine RW.pF h fun M1 h1 => ?_
  rw [rf_isAmount, b2s]
  by_cases g : 1 ≤ x ∧ x ≤ 5000
  · obtain ⟨am, a1, a2, rfl⟩ := amt_of g
    simp only [if_pos g, if_neg (show ¬ (1 : Int32) = 0 by decide)]
    rw [h1.ck, obs, nI_clamp (by omega)]
    refine RW.call (rf_pays hN h1 k.2.1 k.2.2.1 w.1 w.2.1 a2) ?_
    rintro r M2 F2 A2 h2 ⟨q1, q2, q3⟩
    rcases q3 with ⟨rfl, q⟩ | ⟨rfl, q4, q5, -⟩
    · rw [if_pos rfl]
      exact RW.ret h2 ⟨⟨[], Or.inl ⟨rfl, q⟩⟩, Qt.u0.tr q2⟩
    · have hfw := rf_fw (N := N) h2 (t := 0) (a := am) (by omega) a2
      rw [nI_0, show 5001 * 0 + am = am by omega, q5] at hfw
      rw [if_neg (by decide), h2.ck, obs, hfw, b2s]
      exact RW.ret h2 ⟨⟨_, q4.plan⟩, Qt.u0.tr q2⟩
  · simp only [if_neg g]
    rw [if_pos trivial]
    exact RW.ret h1 ⟨rfl, Qt.u0⟩
theorem rf_payoutOf (hN : 2 ^ 15 ≤ N) (h : MAt M F A) (k : Rel F A bf κ σ U sn) (w : WF κ σ U sn) (x y : Int32) : RW M (fn_X10_payoutOf N M 389 x y) (fun r F' A' => PoR κ σ x y r ∧ Qt F A F' A') := by
  unfold fn_X10_payoutOf PoR
  have h8 := w.1.1.1
  obtain ⟨hz, hs, -, hs8⟩ := stA_fact w.1 w.2.1
  refine RW.pF h fun M1 h1 => ?_
  rw [rf_isAmount, b2s]
  by_cases g : 1 ≤ x ∧ x ≤ 5000
  · obtain ⟨am, a1, a2, rfl⟩ := amt_of g
    simp only [if_pos g, if_neg (show ¬ (1 : Int32) = 0 by decide)]
    rw [h1.ck, obs, rf_isType h1 k.2.1 w.1, b2s, nI_clamp (by omega)]
    by_cases g2 : hasI (κ.2 0).length y = true
    · obtain ⟨j, hj, rfl⟩ := hasI_of g2 (by omega)
      simp only [if_pos g2, if_neg (show ¬ (1 : Int32) = 0 by decide)]
      rw [h1.ck, obs]
      refine RW.call (rf_pays hN h1 k.2.1 k.2.2.1 w.1 w.2.1 a2) ?_
      rintro r M2 F2 A2 h2 ⟨q1, q2, q3⟩
      rcases q3 with ⟨rfl, q⟩ | ⟨rfl, q4, q5, q6⟩
      · rw [if_pos rfl]
        exact RW.ret h2 ⟨⟨-2, [], Or.inl ⟨rfl, q⟩, by rw [if_pos rfl]⟩, Qt.u0.tr q2⟩
      · rw [if_neg (by decide)]
        simp (disch := omega) only [MAt.ck h2, MAt.i0 h2, MAt.i2 h2, MAt.i3 h2, MAt.i4 h2, MAt.i5 h2, MAt.i6 h2, MAt.i7 h2, MAt.i8 h2, MAt.i9 h2, MAt.i15 h2, MAt.i18 h2, MAt.i21 h2, MAt.i22 h2, MAt.i23 h2, MAt.i24 h2, MAt.g1 h2, MAt.n1 h2, MAt.r1 h2, MAt.l1 h2, MAt.g10 h2, MAt.n10 h2, MAt.r10 h2, MAt.l10 h2, MAt.g11 h2, MAt.n11 h2, MAt.r11 h2, MAt.l11 h2, MAt.g12 h2, MAt.n12 h2, MAt.r12 h2, MAt.l12 h2, MAt.g13 h2, MAt.n13 h2, MAt.r13 h2, MAt.l13 h2, MAt.g14 h2, MAt.n14 h2, MAt.r14 h2, MAt.l14 h2, MAt.g16 h2, MAt.n16 h2, MAt.r16 h2, MAt.l16 h2, MAt.g17 h2, MAt.n17 h2, MAt.r17 h2, MAt.l17 h2, MAt.g19 h2, MAt.n19 h2, MAt.r19 h2, MAt.l19 h2, MAt.g20 h2, MAt.n20 h2, MAt.r20 h2, MAt.l20 h2, MAt.g25 h2, MAt.n25 h2, MAt.r25 h2, MAt.l25 h2, MAt.g26 h2, MAt.n26 h2, MAt.r26 h2, MAt.l26 h2, MAt.g27 h2, MAt.n27 h2, MAt.r27 h2, MAt.l27 h2, MAt.g28 h2, MAt.n28 h2, MAt.r28 h2, MAt.l28 h2, obs, b2s, lA, lB, lM, nI_add, pk_mul]
        refine RW.ret h2 ⟨⟨_, _, q4.plan, ?_⟩, Qt.u0.tr q2⟩
        have hb : SR (nP κ (A2 27)) 0 8 ≤ 800 := pay_bd hs (show 0 ≤ 8 by omega) (q4.pay).1
        rw [if_neg (nI_nm2 (by omega)), atI_nI (by rw [rgL_len]; omega) (by rw [rgL_len]; omega), rgL_get (by omega)]
        exact (q6 j hj).1
    · simp only [if_neg g2]
      rw [if_pos trivial]
      exact RW.ret h1 ⟨rfl, Qt.u0⟩
  · simp only [if_neg g]
    rw [if_pos trivial]
    exact RW.ret h1 ⟨rfl, Qt.u0⟩
end PZ
/-! dispense -/
def tbN (κ : Cf) (b : Nat) : Nat := ((κ.2 10).getD b 0).toNatClampNeg
def cnN (σ : St) (b : Nat) : Nat := ((σ.2 2).getD b 0).toNatClampNeg
def dpR (κ : Cf) (σ : St) (n : Nat → Nat) : Nat → Nat → Nat
  | 0 => n
  | b + 1 => va_up (dpR κ σ n b) (tbN κ b) (dpR κ σ n b (tbN κ b) - cnN σ b)
def tkN (κ : Cf) (σ : St) (n : Nat → Nat) (b : Nat) : Nat := min (cnN σ b) (dpR κ σ n b (tbN κ b))
def dbL (κ : Cf) (σ : St) (n : Nat → Nat) (b b' : Nat) : Int32 := nI (if b' < b then cnN σ b' - tkN κ σ n b' else cnN σ b')
/-- the state behind a dispense -/
def dsT (κ : Cf) (σ : St) (n : Nat → Nat) : St := (σ.1, va_up σ.2 2 (rgL (dbL κ σ n (κ.2 10).length) (κ.2 10).length))
def DsR (κ : Cf) (σ : St) (U : List St) (x : Int32) (o : Oc) : Prop := if 1 ≤ x ∧ x ≤ 5000 then ((o = (-2, σ, U) ∧ ∀ n, ¬ PayV (stA κ σ) (vN κ) n 0 8 x.toNatClampNeg) ∨ ∃ n, PayV (stA κ σ) (vN κ) n 0 8 x.toNatClampNeg ∧ (∀ q, PayV (stA κ σ) (vN κ) q 0 8 x.toNatClampNeg → WT (stA κ σ) n ≤ WT (stA κ σ) q) ∧ o = (nI (SR n 0 8), dsT κ σ n, pushU σ U)) else o = (-1, σ, U)
theorem bin_fact2 {κ : Cf} {σ : St} (w : WFK κ) (ws : WFS κ σ) {b : Nat} (hb : b < (κ.2 10).length) : tbN κ b < (κ.2 0).length ∧ tbN κ b < 8 ∧ cnN σ b ≤ 100 ∧ (κ.2 10).getD b 0 = nI (tbN κ b) ∧ (σ.2 2).getD b 0 = nI (cnN σ b) := by
  obtain ⟨t, c, t1, t2, c1, d1, d2, d3, d4⟩ := bin_fact w ws hb
  unfold tbN cnN
  rw [d3, d4]
  exact ⟨t1, t2, c1, d1, d2⟩
theorem dpR_le {κ : Cf} {σ : St} {n : Nat → Nat} : ∀ b u, dpR κ σ n b u ≤ n u := by
  intro b
  induction b with
  | zero => intro u; exact Nat.le_refl _
  | succ b ih =>
    intro u
    rw [dpR]
    by_cases e : u = tbN κ b
    · subst e
      have := ih (tbN κ b)
      simp only [va_up, if_true]
      omega
    · simp only [va_up, if_neg e]
      exact ih u
theorem dpR_congr {κ : Cf} {σ : St} {n n' : Nat → Nat} (w : WFK κ) (ws : WFS κ σ) (h : ∀ u, u < 8 → n u = n' u) : ∀ b, b ≤ (κ.2 10).length → ∀ u, u < 8 → dpR κ σ n b u = dpR κ σ n' b u := by
  intro b
  induction b with
  | zero => intro _ u hu; exact h u hu
  | succ b ih =>
    intro hb u hu
    have ht := (bin_fact2 w ws (show b < (κ.2 10).length by omega)).2.1
    rw [dpR, dpR, ih (by omega) _ ht]
    by_cases e : u = tbN κ b
    · simp only [va_up, if_pos e]
    · simp only [va_up, if_neg e]
      exact ih (by omega) u hu
theorem DsR.uniq {κ : Cf} {σ : St} {U : List St} {x : Int32} {o o' : Oc} (w : WFK κ) (ws : WFS κ σ) (h : DsR κ σ U x o) (h' : DsR κ σ U x o') : o = o' := by
  unfold DsR at h h'
  by_cases g : 1 ≤ x ∧ x ≤ 5000
  · rw [if_pos g] at h h'
    rcases h with ⟨rfl, h⟩ | ⟨n, n1, n2, rfl⟩
    · rcases h' with ⟨rfl, -⟩ | ⟨n', n1', -⟩
      · rfl
      · exact absurd n1' (h n')
    · rcases h' with ⟨rfl, h'⟩ | ⟨n', n1', n2', rfl⟩
      · exact absurd n1 (h' n)
      · have e := light_inj n1 n1' (Nat.le_antisymm (n2 _ n1') (n2' _ n1))
        rw [SR_congr 8 0 (fun u _ hu => e u (by omega))]
        have e2 : rgL (dbL κ σ n (κ.2 10).length) (κ.2 10).length = rgL (dbL κ σ n' (κ.2 10).length) (κ.2 10).length := rgL_congr fun i hi => by
          unfold dbL tkN
          rw [dpR_congr w ws e i (by omega) _ (bin_fact2 w ws hi).2.1]
        unfold dsT
        rw [e2]
  · rw [if_neg g] at h h'
    rw [h, h']
theorem nI_subz {a b : Nat} (h : b ≤ a) : nI a + (0 - nI b) = nI (a - b) := by
  rw [Int32.zero_sub, Int32.add_neg_eq_sub, pk_sub h]
theorem mmin {a b : Nat} (ha : a < 2 ^ 31) (hb : b < 2 ^ 31) : (if nI a < nI b then nI a else nI b) = nI (min b a) := by
  have hc := nI_ltI ha hb
  by_cases q : a < b
  · rw [if_pos (hc.mpr q)]; congr 1; omega
  · rw [if_neg (fun z => q (hc.mp z))]; congr 1; omega
section DX
variable {N : Nat} {bf : List Int32} {κ : Cf} {σ : St} {U : List St} {sn : Nat → Option St} {n : Nat → Nat}
theorem XAt.setCo {M M' : Mem} {l : List Int32} (h : XAt M bf κ σ U sn) (hr : RowAt M' 382 8 l) (hf : Fr M M' 382 384) : XAt M' bf κ σ U sn := by
  obtain ⟨st, pl, wt, wh, lc, h1, h2, h3, h4, h5⟩ := h.pay
  exact h.setPy (M' := M') (st := st) (pl := pl) (wt := wt) (wh := wh) (lc := l) ⟨by rw [hf.2 378 (by omega)]; exact h1, by rw [hf.2 379 (by omega)]; exact h2, by rw [hf.2 380 (by omega)]; exact h3, by rw [hf.2 381 (by omega)]; exact h4, hr⟩ (hf.mono (by omega) (by omega))
theorem x_dp (w : WFK κ) (ws : WFS κ σ) (hn : ∀ u, u < 8 → n u ≤ 800) (x2 : Int32) : ∀ (m b : Nat) (M : Mem), XAt M bf κ (σ.1, va_up σ.2 2 (rgL (dbL κ σ n b) (κ.2 10).length)) U sn → RowAt M 382 8 (rgL (fun u => nI (dpR κ σ n b u)) 8) → b ≤ (κ.2 10).length → (κ.2 10).length - b < m → XO bf κ sn M (fn_X9_dispense_37 N m M 0 x2 (nI b)) (x2, dsT κ σ n, U) := by
  have hb8 := w.1.2.2.2.2.1
  have h8 := w.1.1
  intro m
  induction m with
  | zero => intro b M _ _ _ h; omega
  | succ m ih =>
    intro b M h hR hb hm
    obtain ⟨cf, c1, hC, c2⟩ := h.cfg
    obtain ⟨s1, hS⟩ := h.st
    obtain ⟨wh, hW⟩ := h.sc.2.2.1
    rw [fn_X9_dispense_37.eq_2, c1, obs, hC.bt, obs, row_size hC.r10, obs]
    by_cases he : b = (κ.2 10).length
    · subst he
      rw [if_pos (Int32.le_refl _)]
      exact XO.ret h rfl
    · have hbl : b < (κ.2 10).length := by omega
      obtain ⟨t1, t2, t3, t4, t5⟩ := bin_fact2 w ws hbl
      have hnt := hn _ t2
      have hdl := dpR_le (κ := κ) (σ := σ) (n := n) b (tbN κ b)
      have hr2 : RowAt M (58 + 5) 8 (rgL (dbL κ σ n b) (κ.2 10).length) := by
        have := hS.r2
        simpa only [va_up, if_true] using this
      rw [if_neg (nI_ge (by omega) (by omega)), obs, hC.bt, obs, row_ck hC.r10, obs, row_at hC.r10, b2s, atI_nI hbl (by omega), t4, s1, obs, hS.g2, obs, row_ck hr2, obs, row_at hr2, b2s, atI_nI (by rw [rgL_len]; exact hbl) (by rw [rgL_len]; omega), rgL_get hbl, h.py, obs, ev_gR hW rfl, obs, row_ck hR, obs, row_at hR, b2s, atI_nI (by rw [rgL_len]; exact t2) (by rw [rgL_len]; omega), rgL_get t2]
      have ed : dbL κ σ n b b = nI (cnN σ b) := by unfold dbL; rw [if_neg (by omega)]
      rw [ed, mmin (by omega) (by omega)]
      simp only [mm_lt]
      have etk : min (cnN σ b) (dpR κ σ n b (tbN κ b)) = tkN κ σ n b := rfl
      rw [etk, h.py, obs, ev_gR hW rfl, obs, row_ck hR, obs]
      obtain ⟨M1, e1, r1, f1⟩ := row_inc (N := N) (j := tbN κ b) hR (by rw [rgL_len]; exact t2) (0 - nI (tkN κ σ n b))
      rw [e1, b2s]
      have htk1 : tkN κ σ n b ≤ dpR κ σ n b (tbN κ b) := Nat.min_le_right _ _
      have htk2 : tkN κ σ n b ≤ cnN σ b := Nat.min_le_left _ _
      have hR1 : RowAt M1 382 8 (rgL (fun u => nI (dpR κ σ n (b + 1) u)) 8) := by
        rw [rgL_get t2, nI_subz htk1, rgL_set] at r1
        rw [rgL_congr (g := fun i => if i = tbN κ b then nI (dpR κ σ n b (tbN κ b) - tkN κ σ n b) else nI (dpR κ σ n b i)) (fun i hi => ?_)]
        · exact r1
        · rw [dpR]
          by_cases q : i = tbN κ b
          · simp only [va_up, if_pos q]
            congr 1
            unfold tkN
            omega
          · simp only [va_up, if_neg q]
      have h1 := h.setCo r1 f1
      obtain ⟨s1', hS1⟩ := h1.st
      have hr21 : RowAt M1 (58 + 5) 8 (rgL (dbL κ σ n b) (κ.2 10).length) := hr2.keep f1 (by omega)
      rw [s1', obs, hS1.g2, obs, row_ck hr21, obs]
      obtain ⟨M2, e2, r2, f2⟩ := row_inc (N := N) (j := b) hr21 (by rw [rgL_len]; exact hbl) (0 - nI (tkN κ σ n b))
      rw [e2, b2s, nI_1]
      rw [rgL_get hbl, ed, nI_subz htk2, rgL_set] at r2
      have eL : rgL (fun i => if i = b then nI (cnN σ b - tkN κ σ n b) else dbL κ σ n b i) (κ.2 10).length = rgL (dbL κ σ n (b + 1)) (κ.2 10).length := rgL_congr fun i hi => by
        unfold dbL
        by_cases q : i = b
        · subst q; rw [if_pos rfl, if_pos (by omega)]
        · rw [if_neg q]
          by_cases q2 : i < b
          · rw [if_pos q2, if_pos (by omega)]
          · rw [if_neg q2, if_neg (by omega)]
      rw [eL] at r2
      have hS2 := hS1.u2 r2 f2
      rw [bx_uu] at hS2
      have h2 := h1.setSt hS2 (f2.mono (by omega) (by omega))
      have hR2 := hR1.keep f2 (by omega)
      exact XO.fr (f1.mono (by omega) (by omega)) (XO.fr (f2.mono (by omega) (by omega)) (ih (b + 1) M2 h2 hR2 (by omega) (by omega)))
theorem x_dispense {M : Mem} (h : XAt M bf κ σ U sn) (hN : 2 ^ 15 ≤ N) (w : WFK κ) (ws : WFS κ σ) (x : Int32) : ∃ o, DsR κ σ U x o ∧ XO bf κ sn M (fn_X9_dispense N M 0 x) o := by
  have hb8 := w.1.2.2.2.2.1
  have hl2 := ws.1
  obtain ⟨hz, hs, -, hs8⟩ := stA_fact w ws
  unfold fn_X9_dispense DsR
  rw [ev_isAmount, b2s]
  by_cases g : 1 ≤ x ∧ x ≤ 5000
  · obtain ⟨am, a1, a2, rfl⟩ := amt_of g
    simp only [if_pos g, if_neg (show ¬ (1 : Int32) = 0 by decide)]
    obtain ⟨M', r, st, pl, wt, wh, lc, e, h', hf, hP, hp⟩ := x_plan h hN w ws a2
    rw [h.ck, obs, e, b2s, nI_clamp (by omega)]
    rcases hp with ⟨rfl, hp⟩ | ⟨n, n1, n2, rfl, rfl⟩
    · rw [if_pos rfl]
      exact ⟨_, Or.inl ⟨rfl, hp⟩, XO.fr (hf.mono (by omega) (by omega)) (XO.ret h' rfl)⟩
    · have hb : SR n 0 8 ≤ 800 := pay_bd hs (show 0 ≤ 8 by omega) n1
      refine ⟨_, Or.inr ⟨n, n1, n2, rfl⟩, ?_⟩
      rw [if_neg (nI_nm2 (by omega))]
      refine XO.fr (hf.mono (by omega) (by omega)) ?_
      obtain ⟨hg1, hg2⟩ := h'.hi
      obtain ⟨s1, hS⟩ := h'.st
      rw [hg1, obs, s1, obs, hg2.ck, obs]
      obtain ⟨M3, e3, hh3, f3⟩ := hi_push (N := N) hg2 hS (by omega)
      rw [e3, b2s]
      have h3 := h'.setHi hh3 f3
      have hR3 := hP.2.2.2.2.keep f3 (by omega)
      refine XO.fr (f3.mono (by omega) (by omega)) ?_
      have e0 : (σ.1, va_up σ.2 2 (rgL (dbL κ σ n 0) (κ.2 10).length)) = σ := by
        have : rgL (dbL κ σ n 0) (κ.2 10).length = σ.2 2 := by
          rw [rgL_self hl2]
          refine rgL_congr fun i hi => ?_
          unfold dbL
          rw [if_neg (by omega)]
          exact (bin_fact2 w ws hi).2.2.2.2.symm
        rw [this]
        refine Prod.ext rfl ?_
        funext j
        show va_up σ.2 2 (σ.2 2) j = σ.2 j
        unfold va_up
        split
        · rename_i e; rw [e]
        · rfl
      have := x_dp (N := N) (bf := bf) (U := pushU σ U) (sn := sn) (n := n) w ws (fun u hu => Nat.le_trans (n1.1 u (by omega) (by omega)) (hs8 u hu)) (nI (SR n 0 8)) N 0 M3 (by rw [e0]; exact h3) hR3 (by omega) (by omega)
      rw [nI_0] at this
      exact this
  · simp only [if_neg g]
    exact ⟨_, rfl, XO.ret h rfl⟩
end DX
theorem ifc {P Q : Prop} {a b : Nat} (dP : Decidable P) (dQ : Decidable Q) (h : P ↔ Q) : @ite Nat P dP a b = @ite Nat Q dQ a b := by
  by_cases p : P
  · rw [if_pos p, if_pos (h.mp p)]
  · rw [if_neg p, if_neg (fun q => p (h.mpr q))]
def dcF (κ : Cf) (σ : St) (n : Nat → Nat) (t b b' : Nat) : Nat := if tbN κ b' < t ∨ (tbN κ b' = t ∧ b' < b) then cnN σ b' - tkN κ σ n b' else cnN σ b'
section DR
variable {N : Nat} {F : Nat → Int32} {A : Nat → Nat → Int32} {bf : List Int32} {κ : Cf} {σ : St} {U : List St} {sn : Nat → Option St} {n : Nat → Nat}
theorem rf_dp63 (w : WFK κ) (ws : WFS κ σ) (k : RelK (A 10) (A 12) (A 13) (A 14) κ) (hn : ∀ u, u < 8 → n u ≤ 800) {t : Nat} (ht : t < (κ.2 0).length) {x2 : Int32} {K33 : Mem → Nat → Int32 → Int32 → Option (Int32 × Mem)} {Q : Int32 → (Nat → Int32) → (Nat → Nat → Int32) → Prop} (hK : ∀ (M' : Mem) (S' : Nat → Int32), MAt M' F (va_up A 16 S') → (∀ b', b' < (κ.2 10).length → S' (14 + b') = nI (dcF κ σ n (t + 1) 0 b')) → (∀ q, ¬ (14 ≤ q ∧ q < 22) → S' q = A 16 q) → RW M' (K33 M' 389 x2 (nI t + 1)) Q) : ∀ (m b : Nat) (M : Mem) (S : Nat → Int32), MAt M F (va_up A 16 S) → (∀ b', b' < (κ.2 10).length → S (14 + b') = nI (dcF κ σ n t b b')) → (∀ q, ¬ (14 ≤ q ∧ q < 22) → S q = A 16 q) → b ≤ (κ.2 10).length → (κ.2 10).length - b < m → RW M (fn_X10_dispense_63 N K33 m M 389 x2 (nI t) (nI (dpR κ σ n b t)) (nI b)) Q := by
  have hb8 := w.1.2.2.2.2.1
  have h8 := w.1.1
  intro m
  induction m with
  | zero => intro b M S _ _ _ _ h; omega
  | succ m ih =>
    intro b M S h hS hq hb hm
    have k' : RelK (va_up A 16 S 10) (va_up A 16 S 12) (va_up A 16 S 13) (va_up A 16 S 14) κ := k
    rw [fn_X10_dispense_63.eq_2]
    simp (disch := omega) only [MAt.ck h, MAt.i0 h, MAt.i2 h, MAt.i3 h, MAt.i4 h, MAt.i5 h, MAt.i6 h, MAt.i7 h, MAt.i8 h, MAt.i9 h, MAt.i15 h, MAt.i18 h, MAt.i21 h, MAt.i22 h, MAt.i23 h, MAt.i24 h, MAt.g1 h, MAt.n1 h, MAt.r1 h, MAt.l1 h, MAt.g10 h, MAt.n10 h, MAt.r10 h, MAt.l10 h, MAt.g11 h, MAt.n11 h, MAt.r11 h, MAt.l11 h, MAt.g12 h, MAt.n12 h, MAt.r12 h, MAt.l12 h, MAt.g13 h, MAt.n13 h, MAt.r13 h, MAt.l13 h, MAt.g14 h, MAt.n14 h, MAt.r14 h, MAt.l14 h, MAt.g16 h, MAt.n16 h, MAt.r16 h, MAt.l16 h, MAt.g17 h, MAt.n17 h, MAt.r17 h, MAt.l17 h, MAt.g19 h, MAt.n19 h, MAt.r19 h, MAt.l19 h, MAt.g20 h, MAt.n20 h, MAt.r20 h, MAt.l20 h, MAt.g25 h, MAt.n25 h, MAt.r25 h, MAt.l25 h, MAt.g26 h, MAt.n26 h, MAt.r26 h, MAt.l26 h, MAt.g27 h, MAt.n27 h, MAt.r27 h, MAt.l27 h, MAt.g28 h, MAt.n28 h, MAt.r28 h, MAt.l28 h, obs, b2s, lA, lB, lM, nI_add, pk_mul]
    rw [k'.1.2.2.1]
    by_cases he : b = (κ.2 10).length
    · subst he
      rw [if_pos (Int32.le_refl _), ← nI_1]
      refine hK M S h (fun b' hb' => ?_) hq
      rw [hS b' hb']
      unfold dcF
      congr 1
      exact ifc _ _ (by omega)
    · have hbl : b < (κ.2 10).length := by omega
      obtain ⟨t1, t2, t3, t4, t5⟩ := bin_fact2 w ws hbl
      have hnt := hn t (by omega)
      have hdl := dpR_le (κ := κ) (σ := σ) (n := n) b t
      rw [if_neg (nI_ge (by omega) (by omega)), (k'.2.2.2 b hbl).1, t4]
      simp only [fn_X10_dispense_127]
      have hqe := nI_eq (a := tbN κ b) (b := t) (by omega) (by omega)
      by_cases e : tbN κ b = t
      · rw [if_pos (hqe.mpr e)]
        simp (disch := omega) only [MAt.ck h, MAt.i0 h, MAt.i2 h, MAt.i3 h, MAt.i4 h, MAt.i5 h, MAt.i6 h, MAt.i7 h, MAt.i8 h, MAt.i9 h, MAt.i15 h, MAt.i18 h, MAt.i21 h, MAt.i22 h, MAt.i23 h, MAt.i24 h, MAt.g1 h, MAt.n1 h, MAt.r1 h, MAt.l1 h, MAt.g10 h, MAt.n10 h, MAt.r10 h, MAt.l10 h, MAt.g11 h, MAt.n11 h, MAt.r11 h, MAt.l11 h, MAt.g12 h, MAt.n12 h, MAt.r12 h, MAt.l12 h, MAt.g13 h, MAt.n13 h, MAt.r13 h, MAt.l13 h, MAt.g14 h, MAt.n14 h, MAt.r14 h, MAt.l14 h, MAt.g16 h, MAt.n16 h, MAt.r16 h, MAt.l16 h, MAt.g17 h, MAt.n17 h, MAt.r17 h, MAt.l17 h, MAt.g19 h, MAt.n19 h, MAt.r19 h, MAt.l19 h, MAt.g20 h, MAt.n20 h, MAt.r20 h, MAt.l20 h, MAt.g25 h, MAt.n25 h, MAt.r25 h, MAt.l25 h, MAt.g26 h, MAt.n26 h, MAt.r26 h, MAt.l26 h, MAt.g27 h, MAt.n27 h, MAt.r27 h, MAt.l27 h, MAt.g28 h, MAt.n28 h, MAt.r28 h, MAt.l28 h, obs, b2s, lA, lB, lM, nI_add, pk_mul]
        have eS : va_up A 16 S 16 (14 + b) = nI (cnN σ b) := by
          show S (14 + b) = _
          rw [hS b hbl]
          unfold dcF
          rw [if_neg (by omega)]
        have etk : min (dpR κ σ n b t) (cnN σ b) = tkN κ σ n b := by unfold tkN; rw [e, Nat.min_comm]
        rw [eS, mmin (by omega) (by omega), etk]
        simp only [mm_lt]
        have htk1 : tkN κ σ n b ≤ dpR κ σ n b t := by rw [← etk]; exact Nat.min_le_left _ _
        have htk2 : tkN κ σ n b ≤ cnN σ b := Nat.min_le_left _ _
        rw [pk_sub htk2, pk_sub htk1]
        refine RW.w16 h (by omega) fun M1 h1 => ?_
        rw [bx_uu, show va_up A 16 S 16 = S from by simp [va_up]] at h1
        have e5 : dpR κ σ n b t - tkN κ σ n b = dpR κ σ n (b + 1) t := by
          rw [dpR, e]
          simp only [va_up, if_true]
          rw [← etk]
          omega
        rw [e5]
        refine ih (b + 1) M1 _ h1 (fun b' hb' => ?_) (fun q hq2 => by rw [pk_un (by omega)]; exact hq q hq2) (by omega) (by omega)
        by_cases q : b' = b
        · subst q
          rw [pk_us]
          unfold dcF
          rw [if_pos (by omega)]
        · rw [pk_un (by omega), hS b' hb']
          unfold dcF
          congr 1
          exact ifc _ _ (by omega)
      · rw [if_neg (fun z => e (hqe.mp z))]
        have e5 : dpR κ σ n (b + 1) t = dpR κ σ n b t := by
          rw [dpR]
          simp only [va_up]
          rw [if_neg (Ne.symm e)]
        simp (disch := omega) only [MAt.ck h, MAt.i0 h, MAt.i2 h, MAt.i3 h, MAt.i4 h, MAt.i5 h, MAt.i6 h, MAt.i7 h, MAt.i8 h, MAt.i9 h, MAt.i15 h, MAt.i18 h, MAt.i21 h, MAt.i22 h, MAt.i23 h, MAt.i24 h, MAt.g1 h, MAt.n1 h, MAt.r1 h, MAt.l1 h, MAt.g10 h, MAt.n10 h, MAt.r10 h, MAt.l10 h, MAt.g11 h, MAt.n11 h, MAt.r11 h, MAt.l11 h, MAt.g12 h, MAt.n12 h, MAt.r12 h, MAt.l12 h, MAt.g13 h, MAt.n13 h, MAt.r13 h, MAt.l13 h, MAt.g14 h, MAt.n14 h, MAt.r14 h, MAt.l14 h, MAt.g16 h, MAt.n16 h, MAt.r16 h, MAt.l16 h, MAt.g17 h, MAt.n17 h, MAt.r17 h, MAt.l17 h, MAt.g19 h, MAt.n19 h, MAt.r19 h, MAt.l19 h, MAt.g20 h, MAt.n20 h, MAt.r20 h, MAt.l20 h, MAt.g25 h, MAt.n25 h, MAt.r25 h, MAt.l25 h, MAt.g26 h, MAt.n26 h, MAt.r26 h, MAt.l26 h, MAt.g27 h, MAt.n27 h, MAt.r27 h, MAt.l27 h, MAt.g28 h, MAt.n28 h, MAt.r28 h, MAt.l28 h, obs, b2s, lA, lB, lM, nI_add, pk_mul]
        rw [← e5]
        refine ih (b + 1) M S h (fun b' hb' => ?_) hq (by omega) (by omega)
        rw [hS b' hb']
        unfold dcF
        congr 1
        refine ifc _ _ ?_
        by_cases q : b' = b
        · subst q; omega
        · omega
theorem rf_dp33 (hN : 2 ^ 15 ≤ N) (w : WFK κ) (ws : WFS κ σ) (k : RelK (A 10) (A 12) (A 13) (A 14) κ) (hn : ∀ u, u < 8 → n u ≤ 800) (hp : ∀ u, u < (κ.2 0).length → A 27 u = nI (n u)) : ∀ (m t : Nat) (M : Mem) (S : Nat → Int32), MAt M F (va_up A 16 S) → (∀ b', b' < (κ.2 10).length → S (14 + b') = nI (dcF κ σ n t 0 b')) → (∀ q, ¬ (14 ≤ q ∧ q < 22) → S q = A 16 q) → t ≤ (κ.2 0).length → (κ.2 0).length - t < m → RW M (fn_X10_dispense_33 N m M 389 (nI (S0 n t)) (nI t)) (fun r F' A' => r = nI (S0 n (κ.2 0).length) ∧ F' = F ∧ ∃ S', A' = va_up A 16 S' ∧ (∀ b', b' < (κ.2 10).length → S' (14 + b') = nI (cnN σ b' - tkN κ σ n b')) ∧ ∀ q, ¬ (14 ≤ q ∧ q < 22) → S' q = A 16 q) := by
  have hb8 := w.1.2.2.2.2.1
  have h8 := w.1.1
  intro m
  induction m with
  | zero => intro t M S _ _ _ _ h; omega
  | succ m ih =>
    intro t M S h hS hq ht hm
    have k' : RelK (va_up A 16 S 10) (va_up A 16 S 12) (va_up A 16 S 13) (va_up A 16 S 14) κ := k
    rw [fn_X10_dispense_33.eq_2]
    simp (disch := omega) only [MAt.ck h, MAt.i0 h, MAt.i2 h, MAt.i3 h, MAt.i4 h, MAt.i5 h, MAt.i6 h, MAt.i7 h, MAt.i8 h, MAt.i9 h, MAt.i15 h, MAt.i18 h, MAt.i21 h, MAt.i22 h, MAt.i23 h, MAt.i24 h, MAt.g1 h, MAt.n1 h, MAt.r1 h, MAt.l1 h, MAt.g10 h, MAt.n10 h, MAt.r10 h, MAt.l10 h, MAt.g11 h, MAt.n11 h, MAt.r11 h, MAt.l11 h, MAt.g12 h, MAt.n12 h, MAt.r12 h, MAt.l12 h, MAt.g13 h, MAt.n13 h, MAt.r13 h, MAt.l13 h, MAt.g14 h, MAt.n14 h, MAt.r14 h, MAt.l14 h, MAt.g16 h, MAt.n16 h, MAt.r16 h, MAt.l16 h, MAt.g17 h, MAt.n17 h, MAt.r17 h, MAt.l17 h, MAt.g19 h, MAt.n19 h, MAt.r19 h, MAt.l19 h, MAt.g20 h, MAt.n20 h, MAt.r20 h, MAt.l20 h, MAt.g25 h, MAt.n25 h, MAt.r25 h, MAt.l25 h, MAt.g26 h, MAt.n26 h, MAt.r26 h, MAt.l26 h, MAt.g27 h, MAt.n27 h, MAt.r27 h, MAt.l27 h, MAt.g28 h, MAt.n28 h, MAt.r28 h, MAt.l28 h, obs, b2s, lA, lB, lM, nI_add, pk_mul]
    rw [k'.1.1]
    by_cases he : t = (κ.2 0).length
    · subst he
      rw [if_pos (Int32.le_refl _)]
      refine RW.ret h ⟨rfl, rfl, S, rfl, fun b' hb' => ?_, hq⟩
      rw [hS b' hb']
      have := (bin_fact2 w ws hb').1
      unfold dcF
      rw [if_pos (by omega)]
    · have htl : t < (κ.2 0).length := by omega
      rw [if_neg (nI_ge (by omega) (by omega))]
      simp (disch := omega) only [MAt.ck h, MAt.i0 h, MAt.i2 h, MAt.i3 h, MAt.i4 h, MAt.i5 h, MAt.i6 h, MAt.i7 h, MAt.i8 h, MAt.i9 h, MAt.i15 h, MAt.i18 h, MAt.i21 h, MAt.i22 h, MAt.i23 h, MAt.i24 h, MAt.g1 h, MAt.n1 h, MAt.r1 h, MAt.l1 h, MAt.g10 h, MAt.n10 h, MAt.r10 h, MAt.l10 h, MAt.g11 h, MAt.n11 h, MAt.r11 h, MAt.l11 h, MAt.g12 h, MAt.n12 h, MAt.r12 h, MAt.l12 h, MAt.g13 h, MAt.n13 h, MAt.r13 h, MAt.l13 h, MAt.g14 h, MAt.n14 h, MAt.r14 h, MAt.l14 h, MAt.g16 h, MAt.n16 h, MAt.r16 h, MAt.l16 h, MAt.g17 h, MAt.n17 h, MAt.r17 h, MAt.l17 h, MAt.g19 h, MAt.n19 h, MAt.r19 h, MAt.l19 h, MAt.g20 h, MAt.n20 h, MAt.r20 h, MAt.l20 h, MAt.g25 h, MAt.n25 h, MAt.r25 h, MAt.l25 h, MAt.g26 h, MAt.n26 h, MAt.r26 h, MAt.l26 h, MAt.g27 h, MAt.n27 h, MAt.r27 h, MAt.l27 h, MAt.g28 h, MAt.n28 h, MAt.r28 h, MAt.l28 h, obs, b2s, lA, lB, lM, nI_add, pk_mul]
      have e27 : va_up A 16 S 27 t = nI (n t) := hp t htl
      rw [e27]
      have eS : S0 n t + n t = S0 n (t + 1) := rfl
      simp (disch := omega) only [MAt.ck h, MAt.i0 h, MAt.i2 h, MAt.i3 h, MAt.i4 h, MAt.i5 h, MAt.i6 h, MAt.i7 h, MAt.i8 h, MAt.i9 h, MAt.i15 h, MAt.i18 h, MAt.i21 h, MAt.i22 h, MAt.i23 h, MAt.i24 h, MAt.g1 h, MAt.n1 h, MAt.r1 h, MAt.l1 h, MAt.g10 h, MAt.n10 h, MAt.r10 h, MAt.l10 h, MAt.g11 h, MAt.n11 h, MAt.r11 h, MAt.l11 h, MAt.g12 h, MAt.n12 h, MAt.r12 h, MAt.l12 h, MAt.g13 h, MAt.n13 h, MAt.r13 h, MAt.l13 h, MAt.g14 h, MAt.n14 h, MAt.r14 h, MAt.l14 h, MAt.g16 h, MAt.n16 h, MAt.r16 h, MAt.l16 h, MAt.g17 h, MAt.n17 h, MAt.r17 h, MAt.l17 h, MAt.g19 h, MAt.n19 h, MAt.r19 h, MAt.l19 h, MAt.g20 h, MAt.n20 h, MAt.r20 h, MAt.l20 h, MAt.g25 h, MAt.n25 h, MAt.r25 h, MAt.l25 h, MAt.g26 h, MAt.n26 h, MAt.r26 h, MAt.l26 h, MAt.g27 h, MAt.n27 h, MAt.r27 h, MAt.l27 h, MAt.g28 h, MAt.n28 h, MAt.r28 h, MAt.l28 h, obs, b2s, lA, lB, lM, nI_add, pk_mul]
      rw [eS]
      have := rf_dp63 (N := N) (F := F) (A := A) (κ := κ) (σ := σ) (n := n) w ws k hn htl (x2 := nI (S0 n (t + 1))) (K33 := fn_X10_dispense_33 N m) (Q := fun r F' A' => r = nI (S0 n (κ.2 0).length) ∧ F' = F ∧ ∃ S', A' = va_up A 16 S' ∧ (∀ b', b' < (κ.2 10).length → S' (14 + b') = nI (cnN σ b' - tkN κ σ n b')) ∧ ∀ q, ¬ (14 ≤ q ∧ q < 22) → S' q = A 16 q) (fun M' S' h' hS' hq' => by
        rw [nI_1]
        exact ih (t + 1) M' S' h' hS' hq' (by omega) (by omega)) N 0 M S h hS hq (by omega) (by omega)
      rw [nI_0] at this
      exact this
theorem S0_tail {f : Nat → Nat} {a : Nat} : ∀ d, (∀ u, a ≤ u → f u = 0) → S0 f (a + d) = S0 f a := by
  intro d
  induction d with
  | zero => intro _; rfl
  | succ d ih => intro h; rw [show a + (d + 1) = (a + d) + 1 by omega, S0, ih h, h (a + d) (by omega), Nat.add_zero]
theorem rf_dispense (hN : 2 ^ 15 ≤ N) {M : Mem} (h : MAt M F A) (k : Rel F A bf κ σ U sn) (w : WF κ σ U sn) (x : Int32) : RW M (fn_X10_dispense N M 389 x) (fun r F' A' => ∃ o, DsR κ σ U x o ∧ r = o.1 ∧ Rel F' A' bf κ o.2.1 o.2.2 sn) := by
  have h8 := w.1.1.1
  have hb8 := w.1.1.2.2.2.2.1
  obtain ⟨hz, hs, -, hs8⟩ := stA_fact w.1 w.2.1
  unfold fn_X10_dispense DsR
  refine RW.pF h fun M1 h1 => ?_
  have k1 : Rel (upd F 0 0) A bf κ σ U sn := k.qc Qt.u0
  rw [rf_isAmount, b2s]
  by_cases g : 1 ≤ x ∧ x ≤ 5000
  · obtain ⟨am, a1, a2, rfl⟩ := amt_of g
    simp only [if_pos g, if_neg (show ¬ (1 : Int32) = 0 by decide)]
    rw [h1.ck, obs, nI_clamp (by omega)]
    refine RW.call (rf_pays hN h1 k1.2.1 k1.2.2.1 w.1 w.2.1 a2) ?_
    rintro r M2 F2 A2 h2 ⟨q1, q2, q3⟩
    have k2 : Rel F2 A2 bf κ σ U sn := k1.qc q2
    rcases q3 with ⟨rfl, q⟩ | ⟨rfl, q4, q5, q6⟩
    · rw [if_pos rfl]
      exact RW.ret h2 ⟨_, Or.inl ⟨rfl, q⟩, rfl, k2⟩
    · rw [if_neg (by decide), h2.ck, obs]
      refine RW.call (rf_keep2 hN h2 k2) ?_
      rintro r3 M3 F3 A3 h3 ⟨p0, p2, H, rfl, hu⟩
      have hn8 : ∀ u, u < 8 → nP κ (A2 27) u ≤ 800 := fun u hu => by
        by_cases e : u < (κ.2 0).length
        · exact (q6 u e).2
        · unfold nP; rw [if_neg e]; omega
      have hS0 : ∀ b', b' < (κ.2 10).length → A2 16 (14 + b') = nI (dcF κ σ (nP κ (A2 27)) 0 0 b') := fun b' hb' => by
        have hl2 := w.2.1.1
        rw [k2.2.2.1.2.2.2.1 b' (by omega), (bin_fact2 w.1 w.2.1 hb').2.2.2.2]
        unfold dcF
        rw [if_neg (by omega)]
      have := rf_dp33 (N := N) (F := F3) (A := va_up A2 17 H) (κ := κ) (σ := σ) (n := nP κ (A2 27)) hN w.1 w.2.1 k2.2.1 hn8 (fun u hu => (q6 u hu).1) N 0 M3 (A2 16) h3 hS0 (fun q _ => rfl) (by omega) (by omega)
      rw [nI_0, show nI (S0 (nP κ (A2 27)) 0) = 0 from nI_0] at this
      refine this.imp ?_
      rintro r F' A' ⟨rfl, rfl, S', rfl, z1, z2⟩
      refine ⟨_, Or.inr ⟨nP κ (A2 27), (q4.pay).1, fun q hq => q4.light hq, rfl⟩, ?_, ?_⟩
      · show nI _ = nI _
        congr 1
        rw [← S0_SR]
        have := S0_tail (f := nP κ (A2 27)) (a := (κ.2 0).length) (8 - (κ.2 0).length) (fun u hu => by unfold nP; rw [if_neg (by omega)])
        rw [show (κ.2 0).length + (8 - (κ.2 0).length) = 8 by omega] at this
        exact this.symm
      · refine k2.kept p2 hu ?_
        refine k2.2.2.1.bin (fun q hq hq2 => z2 q hq2) (by rw [rgL_len]; exact hb8) (fun i hi => ?_)
        rw [rgL_len] at hi
        rw [z1 i hi, rgL_get hi]
        unfold dbL
        rw [if_pos hi]
  · simp only [if_neg g]
    rw [if_pos trivial]
    exact RW.ret h1 ⟨_, rfl, rfl, k1⟩
end DR
