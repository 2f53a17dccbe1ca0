/-! PURE: classification in the class -/
def devI (x nom tol : Int32) : Int32 := if 1 ≤ tol then (1000 * (if nom ≤ x then x - nom else nom - x) + tol - 1) / tol else 1000000
def scI (κ : Cf) (o : Nat) (i d a : Int32) : Int32 := if 1000 < devI d (atI (κ.2 (o + 1)) i) (atI (κ.2 (o + 2)) i) then 1000000 else if devI a (atI (κ.2 (o + 3)) i) (atI (κ.2 (o + 4)) i) ≤ 1000 then devI d (atI (κ.2 (o + 1)) i) (atI (κ.2 (o + 2)) i) + devI a (atI (κ.2 (o + 3)) i) (atI (κ.2 (o + 4)) i) else 1000000
def exT (κ : Cf) (d a t0 : Int32) : Nat → Int32 × Int32 × Int32
  | 0 => (t0, 1000000, 1000000)
  | i + 1 => if (exT κ d a t0 i).2.1 ≤ scI κ 0 (nI i) d a then (if (exT κ d a t0 i).2.2 ≤ scI κ 0 (nI i) d a then exT κ d a t0 i else ((exT κ d a t0 i).1, (exT κ d a t0 i).2.1, scI κ 0 (nI i) d a)) else (nI i, scI κ 0 (nI i) d a, (exT κ d a t0 i).2.1)
def exF (κ : Cf) (d a : Int32) : Nat → Int32
  | 0 => 1000000
  | i + 1 => if scI κ 5 (nI i) d a < exF κ d a i then scI κ 5 (nI i) d a else exF κ d a i
def vdc (p : Int32 × Int32 × Int32) (f : Int32) : Bool := if f = 1000000 then false else if p.2.1 < f then false else true
def vdP (p : Int32 × Int32 × Int32) (f : Int32) : Int32 × Int32 := if vdc p f then (22, 2000) else (p.1, if p.2.2 = 1000000 then 2000 else p.2.2 - p.2.1)
/-- the verdict at margin 0, and the gap -/
def vdS (κ : Cf) (d a : Int32) : Int32 × Int32 := vdP (exT κ d a 23 (κ.2 0).length) (exF κ d a (κ.2 5).length)
def vdI (κ : Cf) (d a m : Int32) : Int32 := if m ≤ (vdS κ d a).2 then (vdS κ d a).1 else 21
theorem ev_dev {N : Nat} {M : Mem} (x nom tol : Int32) : fn_X3_deviation N M x nom tol = some (devI x nom tol, M) := by
  unfold fn_X3_deviation devI
  by_cases h : 1 ≤ tol
  · have h0 : ¬ tol = 0 := by rintro rfl; exact absurd h (by decide)
    rw [if_pos h, if_pos h]
    by_cases h1 : nom ≤ x
    · rw [if_pos h1, if_pos h1]
      unfold fn_X3_deviation_22 mm_dI
      rw [if_neg h0, Option.bind_some]
    · rw [if_neg h1, if_neg h1]
      unfold fn_X3_deviation_22 mm_dI
      rw [if_neg h0, Option.bind_some]
  · rw [if_neg h, if_neg h]
theorem ev_scT {N : Nat} {M : Mem} {c : Nat} {κ : Cf} (h : CfAt M c κ) (i d a : Int32) : fn_X3_scoreOf N M (c + 1) i d a = some (scI κ 0 i d a, M) := by
  unfold fn_X3_scoreOf scI
  simp only [h.t1, h.t2, h.t3, h.t4, row_ck h.r1, row_ck h.r2, row_ck h.r3, row_ck h.r4, row_at h.r1, row_at h.r2, row_at h.r3, row_at h.r4, ev_dev, mm_b2, Option.bind_some, Nat.zero_add]
  split
  · rfl
  · split <;> rfl
theorem ev_scF {N : Nat} {M : Mem} {c : Nat} {κ : Cf} (h : CfAt M c κ) (i d a : Int32) : fn_X3_scoreOf N M (c + 12) i d a = some (scI κ 5 i d a, M) := by
  unfold fn_X3_scoreOf scI
  simp only [h.f1, h.f2, h.f3, h.f4, row_ck h.r6, row_ck h.r7, row_ck h.r8, row_ck h.r9, row_at h.r6, row_at h.r7, row_at h.r8, row_at h.r9, ev_dev, mm_b2, Option.bind_some]
  split
  · rfl
  · split <;> rfl
theorem row_len {M : Mem} {a c : Nat} {l : List Int32} (h : RowAt M a c l) : l.length ≤ c ∧ c < 2 ^ 15 := by
  obtain ⟨_, _, _, q, q2, _⟩ := h
  exact ⟨q, q2⟩
theorem ex_loop1 {N : Nat} {M : Mem} {j c : Nat} {κ : Cf} {d a : Int32} (h : CfAt M c κ) : ∀ (m k : Nat), k ≤ (κ.2 0).length → (κ.2 0).length - k < m →
    fn_X2_examine_15 N m M j c d a (exT κ d a 23 k).1 (exT κ d a 23 k).2.1 (exT κ d a 23 k).2.2 (nI k) = fn_X2_examine_86 N N M j c d a (exT κ d a 23 (κ.2 0).length).1 (exT κ d a 23 (κ.2 0).length).2.1 (exT κ d a 23 (κ.2 0).length).2.2 1000000 0 := by
  have hl := row_len h.r0
  intro m
  induction m with
  | zero => intro k _ h; omega
  | succ m ih =>
    intro k hk hm
    rw [fn_X2_examine_15.eq_2]
    simp only [h.ty, h.ct, fn_X3_count, h.t0, row_size h.r0, mm_b2, Option.bind_some]
    by_cases he : k = (κ.2 0).length
    · subst he
      rw [if_pos (Int32.le_refl _)]
    · rw [if_neg (nI_ge (by omega) (by omega))]
      simp only [ev_scT h, fn_X2_examine_73, nI_1]
      rw [← ih (k + 1) (by omega) (by omega)]
      rw [exT]
      split
      · split <;> rfl
      · rfl
theorem ex_loop2 {N : Nat} {M : Mem} {j c : Nat} {κ : Cf} {d a x4 x5 x6 : Int32} (h : CfAt M c κ) : ∀ (m k : Nat), k ≤ (κ.2 5).length → (κ.2 5).length - k < m →
    fn_X2_examine_86 N m M j c d a x4 x5 x6 (exF κ d a k) (nI k) = if exF κ d a (κ.2 5).length = 1000000 then fn_X2_examine_140 N M j x4 x5 x6 else if x5 < exF κ d a (κ.2 5).length then fn_X2_examine_140 N M j x4 x5 x6 else fn_X2_examine_141 N M j x4 x5 x6 1 := by
  have hl := row_len h.r5
  intro m
  induction m with
  | zero => intro k _ h; omega
  | succ m ih =>
    intro k hk hm
    rw [fn_X2_examine_86.eq_2]
    simp only [h.fk, h.cf, fn_X3_count, h.f0, row_size h.r5, mm_b2, Option.bind_some]
    by_cases he : k = (κ.2 5).length
    · subst he
      rw [if_pos (Int32.le_refl _)]
    · rw [if_neg (nI_ge (by omega) (by omega))]
      simp only [ev_scF h, mm_lt, nI_1]
      rw [← ih (k + 1) (by omega) (by omega)]
      rw [exF]
theorem ev_exam {N : Nat} {M : Mem} {j c : Nat} {κ : Cf} {d a n1 n2 : Int32} (h : CfAt M c κ) (hj : M[j]? = some (.inr (2, [.int n1, .int n2]))) (hN : 2 ^ 15 ≤ N) : fn_X2_examine N M j c d a = some ((), M.set j (.inr (2, [.int (vdS κ d a).1, .int (vdS κ d a).2]))) := by
  have hl := row_len h.r0
  have hl5 := row_len h.r5
  unfold fn_X2_examine
  have e1 := ex_loop1 (N := N) (j := j) (d := d) (a := a) h N 0 (by omega) (by omega)
  rw [nI_0] at e1
  have e2 := ex_loop2 (N := N) (j := j) (d := d) (a := a) (x4 := (exT κ d a 23 (κ.2 0).length).1) (x5 := (exT κ d a 23 (κ.2 0).length).2.1) (x6 := (exT κ d a 23 (κ.2 0).length).2.2) h N 0 (by omega) (by omega)
  rw [nI_0] at e2
  show fn_X2_examine_15 N N M j c d a (exT κ d a 23 0).1 (exT κ d a 23 0).2.1 (exT κ d a 23 0).2.2 0 = _
  rw [e1]
  show fn_X2_examine_86 N N M j c d a _ _ _ (exF κ d a 0) 0 = _
  rw [e2]
  unfold vdS vdP vdc
  generalize exT κ d a 23 (κ.2 0).length = p
  generalize exF κ d a (κ.2 5).length = f
  have k0 : mm_pV M j 2 0 (.int 22) = some (M.set j (.inr (2, [.int 22, .int n2]))) := ev_pV hj (by simp)
  have kp : ∀ x, mm_pV M j 2 0 (.int x) = some (M.set j (.inr (2, [.int x, .int n2]))) := fun x => ev_pV hj (by simp)
  have kq : ∀ x y, mm_pV (M.set j (.inr (2, [.int x, .int n2]))) j 2 1 (.int y) = some (M.set j (.inr (2, [.int x, .int y]))) := fun x y => by
    rw [ev_pV (st_self hj) (by simp), List.set_set]
    rfl
  have main : ∀ (cfb : Bool), (if cfb = true then fn_X2_examine_141 N M j p.1 p.2.1 p.2.2 1 else fn_X2_examine_140 N M j p.1 p.2.1 p.2.2) = some ((), M.set j (.inr (2, [.int (if cfb = true then ((22 : Int32), (2000 : Int32)) else (p.1, if p.2.2 = 1000000 then 2000 else p.2.2 - p.2.1)).1, .int (if cfb = true then ((22 : Int32), (2000 : Int32)) else (p.1, if p.2.2 = 1000000 then 2000 else p.2.2 - p.2.1)).2]))) := by
    intro cfb
    cases cfb with
    | true =>
      simp only [if_true, fn_X2_examine_141, if_neg (show ¬ (1 : Int32) = 0 by decide), fn_X2_examine_156, kp, kq, Option.bind_some]
    | false =>
      simp only [if_neg (show ¬ false = true by decide), fn_X2_examine_140, fn_X2_examine_141, if_true, fn_X2_examine_156, kp, Option.bind_some]
      by_cases h6 : p.2.2 = 1000000
      · simp only [if_pos h6, kq, Option.bind_some]
      · simp only [if_neg h6, kq, Option.bind_some]
  by_cases hf : f = 1000000
  · have := main false
    simpa [hf] using this
  · by_cases h5 : p.2.1 < f
    · have := main false
      simpa [hf, h5] using this
    · have := main true
      simpa [hf, h5] using this
section XV
variable {N : Nat} {M M' : Mem} {bf : List Int32} {κ : Cf} {σ : St} {U : List St} {sn : Nat → Option St}
theorem ScAt.setJd (h : ScAt M) (n1 n2 : Int32) : ScAt (M.set 377 (.inr (2, [.int n1, .int n2]))) := by
  obtain ⟨h1, ⟨m1, m2, h2⟩, h3, h4, h5, h6, ⟨l, h7⟩, h8, ⟨l2, h9⟩, ⟨l3, h10⟩⟩ := h
  have hf : Fr M (M.set 377 (.inr (2, [.int n1, .int n2]))) 377 378 := Fr.set (by omega) (by omega)
  exact ⟨by rw [hf.2 2 (by omega)]; exact h1, ⟨n1, n2, st_self h2⟩, by rw [hf.2 378 (by omega)]; exact h3, by rw [hf.2 379 (by omega)]; exact h4, by rw [hf.2 380 (by omega)]; exact h5, by rw [hf.2 381 (by omega)]; exact h6, ⟨l, h7.keep hf (by omega)⟩, by rw [hf.2 384 (by omega)]; exact h8, ⟨l2, h9.keep hf (by omega)⟩, ⟨l3, h10.keep hf (by omega)⟩⟩
/-- verdict: the answer; behind it the judge holds what it found -/
theorem x_verdict (h : XAt M bf κ σ U sn) (hN : 2 ^ 15 ≤ N) (d a m : Int32) : ∃ M', fn_X9_verdict N M 0 d a m = some (vdI κ (d + σ.1 0) (a + σ.1 1) m, M') ∧ XAt M' bf κ σ U sn ∧ Fr M M' 377 389 ∧ mm_gI M' 377 2 1 = some (vdS κ (d + σ.1 0) (a + σ.1 1)).2 := by
  obtain ⟨cf, c1, hC, c2⟩ := h.cfg
  obtain ⟨s1, hS⟩ := h.st
  obtain ⟨m1, m2, hJ⟩ := h.sc.2.1
  have hf : ∀ n1 n2, Fr M (M.set 377 (.inr (2, [.int n1, .int n2]))) 377 389 := fun n1 n2 => Fr.set (by omega) (by omega)
  have hX : ∀ n1 n2, XAt (M.set 377 (.inr (2, [.int n1, .int n2]))) bf κ σ U sn := fun n1 n2 => h.setSc (h.sc.setJd n1 n2) (hf n1 n2)
  have hJ2 : ∀ n1 n2, (M.set 377 (.inr (2, [Value.int n1, .int n2])))[377]? = some (.inr (2, [.int n1, .int n2])) := fun n1 n2 => st_self hJ
  unfold fn_X9_verdict
  simp only [h.jd, c1, s1, hS.gI (show 0 < 5 by decide), hS.gI (show 1 < 5 by decide), ev_ck hJ, Option.bind_some, ev_exam hC hJ hN, mm_b2, (hX _ _).jd, ev_ck (hJ2 _ _)]
  unfold fn_X2_verdictAt
  simp only [ev_gI (hJ2 _ _) (j := 1) rfl, ev_gI (hJ2 _ _) (j := 0) rfl, Option.bind_some]
  refine ⟨M.set 377 (.inr (2, [.int (vdS κ (d + σ.1 0) (a + σ.1 1)).1, .int (vdS κ (d + σ.1 0) (a + σ.1 1)).2])), ?_, hX _ _, hf _ _, ev_gI (hJ2 _ _) rfl⟩
  unfold vdI
  by_cases hm : m ≤ (vdS κ (d + σ.1 0) (a + σ.1 1)).2
  · simp only [if_pos hm]
  · simp only [if_neg hm]
def meI (d a : Int32) : Bool := !decide (d < 1) && !decide (4000 < d) && !decide (a < 0) && !decide (9999 < a)
theorem ev_meI (d a : Int32) : fn_X9_isMeasurement N M d a = some (if meI d a then 1 else 0, M) := by
  unfold fn_X9_isMeasurement meI
  by_cases h1 : d < 1
  · simp [h1]
  · by_cases h2 : 4000 < d
    · simp [h1, h2]
    · by_cases h3 : a < 0
      · simp [h1, h2, h3]
      · by_cases h4 : 9999 < a
        · simp [h1, h2, h3, h4]
        · simp [h1, h2, h3, h4]
/-- score: returned or thrown -/
theorem x_score (h : XAt M bf κ σ U sn) (x1 x2 x3 : Int32) (h1 : hasI (κ.2 0).length x1 = true) (h2 : meI x2 x3 = true) : fn_X9_score N M 0 x1 x2 x3 = some (if scI κ 0 x1 (x2 + σ.1 0) (x3 + σ.1 1) = 1000000 then -2 else scI κ 0 x1 (x2 + σ.1 0) (x3 + σ.1 1), M) := by
  obtain ⟨cf, c1, hC, c2⟩ := h.cfg
  obtain ⟨s1, hS⟩ := h.st
  unfold fn_X9_score
  simp only [h.ck, x_isType h, h1, if_true, ev_meI, h2, mm_b2, Option.bind_some, if_neg (show ¬ (1 : Int32) = 0 by decide), c1, hC.ty, hC.ct, s1, hS.gI (show 0 < 5 by decide), hS.gI (show 1 < 5 by decide), ev_scT hC]
  split <;> rfl
end XV
