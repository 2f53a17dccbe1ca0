/-! PURE: the reference's small methods; what its cells stand for -/
theorem ev_within {N : Nat} {M : Mem} (x lo hi : Int32) : fn_X10_within N M x.toInt64 lo.toInt64 hi.toInt64 = some (if lo ≤ x ∧ x ≤ hi then 1 else 0, M) := by
  unfold fn_X10_within
  have h1 : (lg_cmp x.toInt64 lo.toInt64 < 0) ↔ x < lo := by
    rw [lg_cmp_lt, Int64.lt_iff_toInt_lt, Int32.lt_iff_toInt_lt, Int32.toInt_toInt64, Int32.toInt_toInt64]
  have h2 : (0 < lg_cmp x.toInt64 hi.toInt64) ↔ hi < x := by
    rw [lg_cmp_gt, Int64.lt_iff_toInt_lt, Int32.lt_iff_toInt_lt, Int32.toInt_toInt64, Int32.toInt_toInt64]
  simp only [h1, h2]
  by_cases a : x < lo
  · rw [if_pos a, if_neg (fun (q : lo ≤ x ∧ x ≤ hi) => Int32.not_lt.mpr q.1 a)]
  · rw [if_neg a]
    by_cases b : hi < x
    · rw [if_pos b, if_neg (fun (q : lo ≤ x ∧ x ≤ hi) => Int32.not_lt.mpr q.2 b)]
    · rw [if_neg b, if_pos ⟨Int32.not_lt.mp a, Int32.not_lt.mp b⟩]
theorem L0 : (0 : Int64) = (0 : Int32).toInt64 := by decide
theorem L1 : (1 : Int64) = (1 : Int32).toInt64 := by decide
theorem L21 : (21 : Int64) = (21 : Int32).toInt64 := by decide
theorem L24 : (24 : Int64) = (24 : Int32).toInt64 := by decide
theorem L48 : (48 : Int64) = (48 : Int32).toInt64 := by decide
theorem L57 : (57 : Int64) = (57 : Int32).toInt64 := by decide
theorem L97 : (97 : Int64) = (97 : Int32).toInt64 := by decide
theorem L122 : (122 : Int64) = (122 : Int32).toInt64 := by decide
theorem L100 : (100 : Int64) = (100 : Int32).toInt64 := by decide
theorem L200 : (200 : Int64) = (200 : Int32).toInt64 := by decide
theorem L2000 : (2000 : Int64) = (2000 : Int32).toInt64 := by decide
theorem L4000 : (4000 : Int64) = (4000 : Int32).toInt64 := by decide
theorem L5000 : (5000 : Int64) = (5000 : Int32).toInt64 := by decide
theorem L9999 : (9999 : Int64) = (9999 : Int32).toInt64 := by decide
theorem ev_coin {N : Nat} {M : Mem} (d a : Int32) : fn_X10_isCoin N M d a = some (if meI d a then 1 else 0, M) := by
  unfold fn_X10_isCoin meI
  rw [L1, L4000, ev_within]
  simp only [mm_b2, L0, L9999, ev_within]
  simp only [← Int32.not_lt]
  by_cases h1 : d < 1
  · simp [h1]
  · by_cases h2 : 4000 < d
    · simp [h1, h2]
    · by_cases h3 : a < 0
      · simp [h1, h2, h3]
      · by_cases h4 : 9999 < a
        · simp [h1, h2, h3, h4]
        · simp [h1, h2, h3, h4]
/-- x is an index below n -/
theorem ev_has {N : Nat} {M : Mem} (x : Int32) {n : Nat} (hn : n < 2 ^ 30) : fn_X10_within N M x.toInt64 0 (nI n - 1).toInt64 = some (if hasI n x then 1 else 0, M) := by
  rw [L0, ev_within]
  unfold hasI
  have h : (nI n - 1).toInt = (n : Int) - 1 := pk_sub_toInt (b := 1) (by omega) (by omega)
  have hx : (nI n).toInt = n := nI_toInt (by omega)
  by_cases h1 : x < 0
  · have h1' := Int32.lt_iff_toInt_lt.mp h1
    rw [if_neg (fun q => by have := Int32.le_iff_toInt_le.mp q.1; omega)]
    simp [h1]
  · by_cases h2 : nI n ≤ x
    · rw [if_neg (fun q => by have := Int32.le_iff_toInt_le.mp q.2; have := Int32.le_iff_toInt_le.mp h2; omega)]
      simp [h2]
    · rw [if_pos ⟨Int32.not_lt.mp h1, Int32.le_iff_toInt_le.mpr (by have := Int32.lt_iff_toInt_lt.mp (Int32.not_le.mp h2); omega)⟩]
      simp [h1, h2]
theorem hasI_of {n : Nat} {x : Int32} (h : hasI n x = true) (hn : n < 2 ^ 31) : ∃ j, j < n ∧ x = nI j := by
  unfold hasI at h
  rcases pk_ix x hn with h1 | h1 | h1
  · simp [h1] at h
  · simp [h1] at h
  · exact h1
theorem atI_not {l : List Int32} {x : Int32} (h : hasI l.length x = false) : atI l x = -1 := by
  unfold atI
  unfold hasI at h
  by_cases h1 : x < 0
  · rw [if_pos h1]
  · by_cases h2 : nI l.length ≤ x
    · rw [if_neg h1, if_pos h2]
    · simp [h1, h2] at h
def RelS (s : Nat → Int32) (σ : St) : Prop :=
  ((s 0 = σ.1 0 ∧ s 1 = σ.1 1 ∧ s 2 = σ.1 2 ∧ s 5 = σ.1 3 ∧ s 6 = σ.1 4) ∧ s 3 = nI (σ.2 0).length ∧ s 4 = nI (σ.2 1).length ∧ s 7 = nI (σ.2 4).length ∧ s 8 = nI (σ.2 5).length ∧ s 9 = nI (σ.2 8).length) ∧
  ((σ.2 0).length ≤ 60 ∧ (σ.2 1).length ≤ 20 ∧ (σ.2 2).length ≤ 8 ∧ (σ.2 3).length = 4 ∧ (σ.2 4).length ≤ 40 ∧ (σ.2 5).length ≤ 30 ∧ (σ.2 6).length = (σ.2 5).length ∧ (σ.2 7).length = (σ.2 5).length ∧ (σ.2 8).length ≤ 40 ∧ (σ.2 9).length = (σ.2 8).length) ∧
  (∀ i, i < 4 → s (10 + i) = (σ.2 3).getD i 0) ∧ (∀ i, i < (σ.2 2).length → s (14 + i) = (σ.2 2).getD i 0) ∧ (∀ i, i < (σ.2 1).length → s (22 + i) = (σ.2 1).getD i 0) ∧ (∀ i, i < (σ.2 4).length → s (42 + i) = (σ.2 4).getD i 0) ∧
  (∀ i, i < (σ.2 0).length → s (82 + 2 * i) = (σ.2 0).getD i 0 / 10000 ∧ s (82 + 2 * i + 1) = (σ.2 0).getD i 0 - (σ.2 0).getD i 0 / 10000 * 10000) ∧
  (∀ i, i < (σ.2 5).length → s (202 + i) = (σ.2 5).getD i 0 ∧ s (232 + i) = (σ.2 6).getD i 0 ∧ s (262 + i) = (σ.2 7).getD i 0 + 1) ∧
  (∀ i, i < (σ.2 8).length → s (292 + 3 * i) = (σ.2 8).getD i 0 / 10000 ∧ s (292 + 3 * i + 1) = (σ.2 8).getD i 0 - (σ.2 8).getD i 0 / 10000 * 10000 ∧ s (292 + 3 * i + 2) = (σ.2 9).getD i 0)
theorem RelS.congr {s s' : Nat → Int32} {σ : St} (h : RelS s σ) (e : ∀ k, k < 412 → s' k = s k) : RelS s' σ := by
  obtain ⟨⟨⟨a1, a2, a3, a4, a5⟩, a6, a7, a8, a9, a10⟩, hc, b1, b2, b3, b4, b5, b6, b7⟩ := h
  have hc' := hc
  obtain ⟨c1, c2, c3, c4, c5, c6, c7, c8, c9, c10⟩ := hc
  refine ⟨⟨⟨by rw [e _ (by omega), a1], by rw [e _ (by omega), a2], by rw [e _ (by omega), a3], by rw [e _ (by omega), a4], by rw [e _ (by omega), a5]⟩, by rw [e _ (by omega), a6], by rw [e _ (by omega), a7], by rw [e _ (by omega), a8], by rw [e _ (by omega), a9], by rw [e _ (by omega), a10]⟩, hc', fun i hi => by rw [e _ (by omega), b1 i hi], fun i hi => by rw [e _ (by omega), b2 i hi], fun i hi => by rw [e _ (by omega), b3 i hi], fun i hi => by rw [e _ (by omega), b4 i hi], fun i hi => ?_, fun i hi => ?_, fun i hi => ?_⟩
  · rw [e _ (by omega), e _ (by omega)]; exact b5 i hi
  · rw [e _ (by omega), e _ (by omega), e _ (by omega)]; exact b6 i hi
  · rw [e _ (by omega), e _ (by omega), e _ (by omega)]; exact b7 i hi
/-- the reference's configuration: A 10, 12, 13, 14 -/
def RelK (b k t z : Nat → Int32) (κ : Cf) : Prop :=
  (b 0 = nI (κ.2 0).length ∧ b 1 = nI (κ.2 5).length ∧ b 2 = nI (κ.2 10).length ∧ b 3 = κ.1 0 ∧ b 4 = κ.1 1 ∧ b 5 = κ.1 2) ∧
  (∀ i, i < (κ.2 0).length → ∀ r, r < 5 → k (5 * i + r) = (κ.2 r).getD i 0) ∧ (∀ i, i < (κ.2 5).length → ∀ r, r < 5 → k (5 * (8 + i) + r) = (κ.2 (5 + r)).getD i 0) ∧
  (∀ i, i < (κ.2 10).length → t i = (κ.2 10).getD i 0 ∧ z i = (κ.2 11).getD i 0)
def Ng (lo hi : Nat) (x : Int32) : Prop := ∃ n, lo ≤ n ∧ n ≤ hi ∧ x = nI n
/-- a configuration as the document has it -/
def WFK (κ : Cf) : Prop :=
  ((κ.2 0).length ≤ 8 ∧ (∀ r, r < 5 → (κ.2 r).length = (κ.2 0).length) ∧ (κ.2 5).length ≤ 4 ∧ (∀ r, r < 5 → (κ.2 (5 + r)).length = (κ.2 5).length) ∧ (κ.2 10).length ≤ 8 ∧ (κ.2 11).length = (κ.2 10).length) ∧
  (∀ i, i < (κ.2 0).length → Ng 1 500 ((κ.2 0).getD i 0) ∧ Ng 1000 4000 ((κ.2 1).getD i 0) ∧ Ng 1 200 ((κ.2 2).getD i 0) ∧ Ng 0 9999 ((κ.2 3).getD i 0) ∧ Ng 1 500 ((κ.2 4).getD i 0)) ∧
  (∀ i, i < (κ.2 5).length → Ng 1000 4000 ((κ.2 6).getD i 0) ∧ Ng 1 200 ((κ.2 7).getD i 0) ∧ Ng 0 9999 ((κ.2 8).getD i 0) ∧ Ng 1 500 ((κ.2 9).getD i 0)) ∧
  (∀ i, i < (κ.2 10).length → (∃ t, t < (κ.2 0).length ∧ (κ.2 10).getD i 0 = nI t) ∧ Ng 1 100 ((κ.2 11).getD i 0)) ∧
  Ng 1000 4000 (κ.1 0) ∧ Ng 0 20 (κ.1 1) ∧ Ng 0 2000 (κ.1 2)
/-- a state that a machine of this configuration can have -/
def WFS (κ : Cf) (σ : St) : Prop :=
  (σ.2 2).length = (κ.2 10).length ∧ (∀ i, i < (κ.2 10).length → ∃ n z, (σ.2 2).getD i 0 = nI n ∧ (κ.2 11).getD i 0 = nI z ∧ n ≤ z ∧ z ≤ 100) ∧
  (∀ i, i < (σ.2 1).length → ∃ t, t < (κ.2 0).length ∧ (σ.2 1).getD i 0 = nI t) ∧ (∀ i, i < (σ.2 5).length → ∃ t, t < (κ.2 0).length ∧ (σ.2 5).getD i 0 = nI t) ∧
  (∀ i, i < (σ.2 7).length → (σ.2 7).getD i 0 = -1 ∨ Ng 0 200 ((σ.2 7).getD i 0)) ∧ (∀ i, i < (σ.2 9).length → (σ.2 9).getD i 0 = -1 ∨ ∃ t, t < (κ.2 0).length ∧ (σ.2 9).getD i 0 = nI t) ∧
  (σ.1 3 = 0 ∨ σ.1 3 = 1) ∧ Ng 0 2000 (σ.1 2) ∧ (∃ a b, a ≤ 4000 ∧ b ≤ 4000 ∧ σ.1 0 = nI a - nI b) ∧ (∃ a b, a ≤ 9999 ∧ b ≤ 9999 ∧ σ.1 1 = nI a - nI b) ∧
  (∀ i, i < (σ.2 0).length → ∃ d a, 1 ≤ d ∧ d ≤ 4000 ∧ a ≤ 9999 ∧ (σ.2 0).getD i 0 = nI (d * 10000 + a)) ∧ (∀ i, i < (σ.2 8).length → ∃ d a, 1 ≤ d ∧ d ≤ 4000 ∧ a ≤ 9999 ∧ (σ.2 8).getD i 0 = nI (d * 10000 + a))
def Rel (F : Nat → Int32) (A : Nat → Nat → Int32) (bf : List Int32) (κ : Cf) (σ : St) (U : List St) (sn : Nat → Option St) : Prop :=
  (F 2 = nI bf.length ∧ bf.length ≤ 800 ∧ ∀ i, i < bf.length → A 1 i = bf.getD i 0) ∧ RelK (A 10) (A 12) (A 13) (A 14) κ ∧ RelS (A 16) σ ∧
  (F 18 = nI U.length ∧ U.length ≤ 12 ∧ ∀ i, i < U.length → ∃ u, U[i]? = some u ∧ RelS (fun k => A 17 (412 * (U.length - 1 - i) + k)) u) ∧
  ∀ j, j < 2 → (A 20 j = 0 ∧ sn j = none) ∨ (A 20 j = 1 ∧ ∃ t, sn j = some t ∧ RelS (fun k => A 19 (412 * j + k)) t)
def WF (κ : Cf) (σ : St) (U : List St) (sn : Nat → Option St) : Prop := WFK κ ∧ WFS κ σ ∧ (∀ u, u ∈ U → WFS κ u) ∧ ∀ j t, sn j = some t → WFS κ t
/-- nothing that lasts has changed -/
def Qt (F : Nat → Int32) (A : Nat → Nat → Int32) (F' : Nat → Int32) (A' : Nat → Nat → Int32) : Prop := F' 2 = F 2 ∧ F' 18 = F 18 ∧ A' 1 = A 1 ∧ A' 10 = A 10 ∧ A' 12 = A 12 ∧ A' 13 = A 13 ∧ A' 14 = A 14 ∧ A' 16 = A 16 ∧ A' 17 = A 17 ∧ A' 19 = A 19 ∧ A' 20 = A 20
theorem Qt.rf {F : Nat → Int32} {A : Nat → Nat → Int32} : Qt F A F A := ⟨rfl, rfl, rfl, rfl, rfl, rfl, rfl, rfl, rfl, rfl, rfl⟩
theorem Qt.tr {F F' F'' : Nat → Int32} {A A' A'' : Nat → Nat → Int32} (h : Qt F A F' A') (g : Qt F' A' F'' A'') : Qt F A F'' A'' := by
  obtain ⟨h1, h2, h3, h4, h5, h6, h7, h8, h9, h10, h11⟩ := h
  obtain ⟨g1, g2, g3, g4, g5, g6, g7, g8, g9, g10, g11⟩ := g
  exact ⟨g1.trans h1, g2.trans h2, g3.trans h3, g4.trans h4, g5.trans h5, g6.trans h6, g7.trans h7, g8.trans h8, g9.trans h9, g10.trans h10, g11.trans h11⟩
theorem Rel.qc {F F' : Nat → Int32} {A A' : Nat → Nat → Int32} {bf : List Int32} {κ : Cf} {σ : St} {U : List St} {sn : Nat → Option St} (h : Rel F A bf κ σ U sn) (g : Qt F A F' A') : Rel F' A' bf κ σ U sn := by
  obtain ⟨g1, g2, g3, g4, g5, g6, g7, g8, g9, g10, g11⟩ := g
  unfold Rel
  rw [g1, g2, g3, g4, g5, g6, g7, g8, g9, g10, g11]
  exact h
section RB
variable {N : Nat} {M : Mem} {F : Nat → Int32} {A : Nat → Nat → Int32} {bf : List Int32} {κ : Cf} {σ : St} {U : List St} {sn : Nat → Option St}
theorem rf_told (h : MAt M F A) (v : Int32) : RW M (fn_X10_told N M 389 v) (fun r F' A' => r = v ∧ F' = upd F 0 0 ∧ A' = A) := by
  unfold fn_X10_told
  exact RW.pF h fun M1 h1 => RW.ret h1 ⟨rfl, rfl, rfl⟩
theorem rf_fail (h : MAt M F A) (v : Int32) : RW M (fn_X10_fail N M 389 v) (fun r F' A' => F' = upd F 0 v ∧ A' = A) := by
  unfold fn_X10_fail
  exact RW.pF h fun M1 h1 => RW.ret h1 ⟨rfl, rfl⟩
theorem rf_isType (h : MAt M F A) (k : RelK (A 10) (A 12) (A 13) (A 14) κ) (w : WFK κ) (x : Int32) : fn_X10_isType N M 389 x = some (if hasI (κ.2 0).length x then 1 else 0, M) := by
  unfold fn_X10_isType
  have := w.1.1
  simp (disch := omega) only [MAt.ck h, MAt.i0 h, MAt.i2 h, MAt.i3 h, MAt.i4 h, MAt.i5 h, MAt.i6 h, MAt.i7 h, MAt.i8 h, MAt.i9 h, MAt.i15 h, MAt.i18 h, MAt.i21 h, MAt.i22 h, MAt.i23 h, MAt.i24 h, MAt.g1 h, MAt.n1 h, MAt.r1 h, MAt.l1 h, MAt.g10 h, MAt.n10 h, MAt.r10 h, MAt.l10 h, MAt.g11 h, MAt.n11 h, MAt.r11 h, MAt.l11 h, MAt.g12 h, MAt.n12 h, MAt.r12 h, MAt.l12 h, MAt.g13 h, MAt.n13 h, MAt.r13 h, MAt.l13 h, MAt.g14 h, MAt.n14 h, MAt.r14 h, MAt.l14 h, MAt.g16 h, MAt.n16 h, MAt.r16 h, MAt.l16 h, MAt.g17 h, MAt.n17 h, MAt.r17 h, MAt.l17 h, MAt.g19 h, MAt.n19 h, MAt.r19 h, MAt.l19 h, MAt.g20 h, MAt.n20 h, MAt.r20 h, MAt.l20 h, MAt.g25 h, MAt.n25 h, MAt.r25 h, MAt.l25 h, MAt.g26 h, MAt.n26 h, MAt.r26 h, MAt.l26 h, MAt.g27 h, MAt.n27 h, MAt.r27 h, MAt.l27 h, MAt.g28 h, MAt.n28 h, MAt.r28 h, MAt.l28 h, obs, b2s, lA, lB, lM, nI_add, pk_mul]
  rw [k.1.1, ev_has x (by omega)]
  simp only [mm_b2]
  split <;> simp
theorem rf_isBin (h : MAt M F A) (k : RelK (A 10) (A 12) (A 13) (A 14) κ) (w : WFK κ) (x : Int32) : fn_X10_isBin N M 389 x = some (if hasI (κ.2 10).length x then 1 else 0, M) := by
  unfold fn_X10_isBin
  have := w.1.2.2.2.2.1
  simp (disch := omega) only [MAt.ck h, MAt.i0 h, MAt.i2 h, MAt.i3 h, MAt.i4 h, MAt.i5 h, MAt.i6 h, MAt.i7 h, MAt.i8 h, MAt.i9 h, MAt.i15 h, MAt.i18 h, MAt.i21 h, MAt.i22 h, MAt.i23 h, MAt.i24 h, MAt.g1 h, MAt.n1 h, MAt.r1 h, MAt.l1 h, MAt.g10 h, MAt.n10 h, MAt.r10 h, MAt.l10 h, MAt.g11 h, MAt.n11 h, MAt.r11 h, MAt.l11 h, MAt.g12 h, MAt.n12 h, MAt.r12 h, MAt.l12 h, MAt.g13 h, MAt.n13 h, MAt.r13 h, MAt.l13 h, MAt.g14 h, MAt.n14 h, MAt.r14 h, MAt.l14 h, MAt.g16 h, MAt.n16 h, MAt.r16 h, MAt.l16 h, MAt.g17 h, MAt.n17 h, MAt.r17 h, MAt.l17 h, MAt.g19 h, MAt.n19 h, MAt.r19 h, MAt.l19 h, MAt.g20 h, MAt.n20 h, MAt.r20 h, MAt.l20 h, MAt.g25 h, MAt.n25 h, MAt.r25 h, MAt.l25 h, MAt.g26 h, MAt.n26 h, MAt.r26 h, MAt.l26 h, MAt.g27 h, MAt.n27 h, MAt.r27 h, MAt.l27 h, MAt.g28 h, MAt.n28 h, MAt.r28 h, MAt.l28 h, obs, b2s, lA, lB, lM, nI_add, pk_mul]
  rw [k.1.2.2.1, ev_has x (by omega)]
  simp only [mm_b2]
  split <;> simp
theorem rf_isBag (h : MAt M F A) (k : RelS (A 16) σ) (x : Int32) : fn_X10_isBag N M 389 x = some (if hasI (σ.2 5).length x then 1 else 0, M) := by
  unfold fn_X10_isBag
  have := k.2.1.2.2.2.2.2.1
  simp (disch := omega) only [MAt.ck h, MAt.i0 h, MAt.i2 h, MAt.i3 h, MAt.i4 h, MAt.i5 h, MAt.i6 h, MAt.i7 h, MAt.i8 h, MAt.i9 h, MAt.i15 h, MAt.i18 h, MAt.i21 h, MAt.i22 h, MAt.i23 h, MAt.i24 h, MAt.g1 h, MAt.n1 h, MAt.r1 h, MAt.l1 h, MAt.g10 h, MAt.n10 h, MAt.r10 h, MAt.l10 h, MAt.g11 h, MAt.n11 h, MAt.r11 h, MAt.l11 h, MAt.g12 h, MAt.n12 h, MAt.r12 h, MAt.l12 h, MAt.g13 h, MAt.n13 h, MAt.r13 h, MAt.l13 h, MAt.g14 h, MAt.n14 h, MAt.r14 h, MAt.l14 h, MAt.g16 h, MAt.n16 h, MAt.r16 h, MAt.l16 h, MAt.g17 h, MAt.n17 h, MAt.r17 h, MAt.l17 h, MAt.g19 h, MAt.n19 h, MAt.r19 h, MAt.l19 h, MAt.g20 h, MAt.n20 h, MAt.r20 h, MAt.l20 h, MAt.g25 h, MAt.n25 h, MAt.r25 h, MAt.l25 h, MAt.g26 h, MAt.n26 h, MAt.r26 h, MAt.l26 h, MAt.g27 h, MAt.n27 h, MAt.r27 h, MAt.l27 h, MAt.g28 h, MAt.n28 h, MAt.r28 h, MAt.l28 h, obs, b2s, lA, lB, lM, nI_add, pk_mul]
  rw [k.1.2.2.2.2.1, ev_has x (by omega)]
  simp only [mm_b2]
  split <;> simp
theorem rf_isAmount (x : Int32) : fn_X10_isAmount N M x = some (if 1 ≤ x ∧ x ≤ 5000 then 1 else 0, M) := by
  unfold fn_X10_isAmount
  rw [L1, L5000, ev_within]
  simp only [mm_b2]
  split <;> simp
theorem rf_rej (x : Int32) : fn_X10_rejectPlace N M x = some (if 21 ≤ x ∧ x ≤ 24 then 10 + x - 21 else -1, M) := by
  unfold fn_X10_rejectPlace
  rw [L21, L24, ev_within]
  simp only [mm_b2]
  split <;> simp
theorem rf_thrown (h : MAt M F A) : fn_X10_thrown N M 389 = some (F 0, M) := by
  unfold fn_X10_thrown
  simp (disch := omega) only [MAt.ck h, MAt.i0 h, MAt.i2 h, MAt.i3 h, MAt.i4 h, MAt.i5 h, MAt.i6 h, MAt.i7 h, MAt.i8 h, MAt.i9 h, MAt.i15 h, MAt.i18 h, MAt.i21 h, MAt.i22 h, MAt.i23 h, MAt.i24 h, MAt.g1 h, MAt.n1 h, MAt.r1 h, MAt.l1 h, MAt.g10 h, MAt.n10 h, MAt.r10 h, MAt.l10 h, MAt.g11 h, MAt.n11 h, MAt.r11 h, MAt.l11 h, MAt.g12 h, MAt.n12 h, MAt.r12 h, MAt.l12 h, MAt.g13 h, MAt.n13 h, MAt.r13 h, MAt.l13 h, MAt.g14 h, MAt.n14 h, MAt.r14 h, MAt.l14 h, MAt.g16 h, MAt.n16 h, MAt.r16 h, MAt.l16 h, MAt.g17 h, MAt.n17 h, MAt.r17 h, MAt.l17 h, MAt.g19 h, MAt.n19 h, MAt.r19 h, MAt.l19 h, MAt.g20 h, MAt.n20 h, MAt.r20 h, MAt.l20 h, MAt.g25 h, MAt.n25 h, MAt.r25 h, MAt.l25 h, MAt.g26 h, MAt.n26 h, MAt.r26 h, MAt.l26 h, MAt.g27 h, MAt.n27 h, MAt.r27 h, MAt.l27 h, MAt.g28 h, MAt.n28 h, MAt.r28 h, MAt.l28 h, obs, b2s, lA, lB, lM, nI_add, pk_mul]
end RB
