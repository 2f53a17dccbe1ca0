/-! PURE: the law's cases -/
def Inv (M : Mem) : Prop := ∃ (bf : List Int32) (κ : Cf) (σ : St) (U : List St) (sn : Nat → Option St) (F : Nat → Int32) (A : Nat → Nat → Int32), XAt M bf κ σ U sn ∧ MAt M F A ∧ Rel F A bf κ σ U sn ∧ WF κ σ U sn ∧ ∃ g, M[404]? = some (.inl (1, 1, .inr (.inl g)))
section LC
variable {N L : Nat} {xs : Nat → Int32} {q : Nat} {M M1 : Mem} {F : Nat → Int32} {A : Nat → Nat → Int32} {bf bf' : List Int32} {κ κ' : Cf} {σ σ' : St} {U U' : List St} {sn sn' : Nat → Option St}
theorem lq {v : Int32} {y : Option (Int32 × Mem)} (hX : XAt M1 bf' κ' σ' U' sn') (hf : Fr M M1 0 389) (hM : MAt M F A) (hw : WF κ' σ' U' sn') (ho : ∃ g, M[404]? = some (.inl (1, 1, .inr (.inl g)))) (hy : MAt M1 F A → RW M1 y (fun r F' A' => r = v ∧ Rel F' A' bf' κ' σ' U' sn')) : ∃ M2, ((mm_ck M1 389 10).bind fun _ => mm_b2 y fun v6 M5 => if v = v6 then some M5 else none) = some M2 ∧ Inv M2 := by
  have h1 := hM.keep hf (by omega)
  obtain ⟨r, M2, F', A', e, h2, f2, rfl, k2⟩ := hy h1
  obtain ⟨g, hg⟩ := ho
  rw [h1.ck, obs, e, b2s, if_pos rfl]
  exact ⟨M2, rfl, bf', κ', σ', U', sn', F', A', hX.keep f2 (by omega), h2, k2, hw, g, by rw [f2.2 404 (by omega), hf.2 404 (by omega)]; exact hg⟩
theorem lth {v t : Int32} {y : Option (Int32 × Mem)} (hX : XAt M1 bf' κ' σ' U' sn') (h1 : MAt M1 F A) (hw : WF κ' σ' U' sn') {g : Nat → Int64} (hg : M1[404]? = some (.inl (1, 1, .inr (.inl g)))) (hv : t = 0 → g 0 = v.toInt64) (hy : RW M1 y (fun r F' A' => F' 0 = t ∧ (t = 0 → r = v) ∧ Rel F' A' bf' κ' σ' U' sn')) : ∃ M2, ((mm_ck M1 389 10).bind fun _ => mm_b2 y fun v10 M9 => (mm_ck M9 389 10).bind fun _ => mm_b2 (fn_X10_thrown N M9 389) fun v12 M11 => if v12 = t then (if t = 0 then (mm_aL M11 404 0).bind fun v13 => if (lg_cmp v13 (Int32.toInt64 v10)) = 0 then some M11 else none else some M11) else none) = some M2 ∧ Inv M2 := by
  obtain ⟨r, M2, F', A', e, h2, f2, q1, q2, k2⟩ := hy
  have g2 : M2[404]? = some (.inl (1, 1, .inr (.inl g))) := by rw [f2.2 404 (by omega)]; exact hg
  have hI : Inv M2 := ⟨bf', κ', σ', U', sn', F', A', hX.keep f2 (by omega), h2, k2, hw, g, g2⟩
  rw [h1.ck, obs, e, b2s, h2.ck, obs, rf_thrown h2, b2s, if_pos q1]
  by_cases t0 : t = 0
  · have a0 : mm_aL M2 404 0 = some (g 0) := ev_aL (j := 0) g2 (by decide) (by decide)
    rw [if_pos t0, a0, obs, hv t0, q2 t0, if_pos ((lg_cmp_eq _ _).mpr rfl)]
    exact ⟨M2, rfl, hI⟩
  · rw [if_neg t0]
    exact ⟨M2, rfl, hI⟩
theorem sc_at {j : Nat} {x : Int32} (hx : x = nI j) (hj : j < L) (hL : L ≤ 3072) : sc_ld L xs x = some (xs j) := by
  subst hx
  unfold sc_ld
  rw [nI_clamp (by omega), if_neg (fun z => by
    rcases z with z | z
    · exact nI_pos (by omega) z
    · omega)]
theorem lc_2 (hN : 2 ^ 15 ≤ N) (hI : Inv M) (hq : q + 6 ≤ L) (hL : L ≤ 3072) : ∃ M', fn_law_2 N L xs M (nI q) 0 389 404 = some M' ∧ Inv M' := by
  obtain ⟨bf, κ, σ, U, sn, F, A, h, hM, k, w, ho⟩ := hI
  have ho' := ho
  have s1 : sc_ld L xs (nI q + 1) = some (xs (q + 1)) := sc_at (nI_add q 1) (by omega) hL
  have s2 : sc_ld L xs (nI q + 2) = some (xs (q + 2)) := sc_at (nI_add q 2) (by omega) hL
  have s3 : sc_ld L xs (nI q + 3) = some (xs (q + 3)) := sc_at (nI_add q 3) (by omega) hL
  have s4 : sc_ld L xs (nI q + 4) = some (xs (q + 4)) := sc_at (nI_add q 4) (by omega) hL
  have s5 : sc_ld L xs (nI q + 5) = some (xs (q + 5)) := sc_at (nI_add q 5) (by omega) hL
  have l3 := k.2.2.1.2.1.2.2.2.1
  have l5 := k.2.2.1.2.1.2.2.2.2.2.1
  have e6 := k.2.2.1.2.1.2.2.2.2.2.2.1
  have e7 := k.2.2.1.2.1.2.2.2.2.2.2.2.1
  have e9 := k.2.2.1.2.1.2.2.2.2.2.2.2.2.2
  unfold fn_law_2
  simp only [s1, s2, s3, s4, s5, h.ck, obs]
  rw [x_typeCount h , b2s]
  exact lq h Fr.rf hM w ho (fun h1 => (rf_typeCount h1 k ).imp (fun r F' A' z => ⟨z.1, k.qc z.2⟩))
theorem lc_3 (hN : 2 ^ 15 ≤ N) (hI : Inv M) (hq : q + 6 ≤ L) (hL : L ≤ 3072) : ∃ M', fn_law_3 N L xs M (nI q) 0 389 404 = some M' ∧ Inv M' := by
  obtain ⟨bf, κ, σ, U, sn, F, A, h, hM, k, w, ho⟩ := hI
  have ho' := ho
  have s1 : sc_ld L xs (nI q + 1) = some (xs (q + 1)) := sc_at (nI_add q 1) (by omega) hL
  have s2 : sc_ld L xs (nI q + 2) = some (xs (q + 2)) := sc_at (nI_add q 2) (by omega) hL
  have s3 : sc_ld L xs (nI q + 3) = some (xs (q + 3)) := sc_at (nI_add q 3) (by omega) hL
  have s4 : sc_ld L xs (nI q + 4) = some (xs (q + 4)) := sc_at (nI_add q 4) (by omega) hL
  have s5 : sc_ld L xs (nI q + 5) = some (xs (q + 5)) := sc_at (nI_add q 5) (by omega) hL
  have l3 := k.2.2.1.2.1.2.2.2.1
  have l5 := k.2.2.1.2.1.2.2.2.2.2.1
  have e6 := k.2.2.1.2.1.2.2.2.2.2.2.1
  have e7 := k.2.2.1.2.1.2.2.2.2.2.2.2.1
  have e9 := k.2.2.1.2.1.2.2.2.2.2.2.2.2.2
  unfold fn_law_3
  simp only [s1, s2, s3, s4, s5, h.ck, obs]
  rw [x_fakeCount h , b2s]
  exact lq h Fr.rf hM w ho (fun h1 => (rf_fakeCount h1 k ).imp (fun r F' A' z => ⟨z.1, k.qc z.2⟩))
theorem lc_4 (hN : 2 ^ 15 ≤ N) (hI : Inv M) (hq : q + 6 ≤ L) (hL : L ≤ 3072) : ∃ M', fn_law_4 N L xs M (nI q) 0 389 404 = some M' ∧ Inv M' := by
  obtain ⟨bf, κ, σ, U, sn, F, A, h, hM, k, w, ho⟩ := hI
  have ho' := ho
  have s1 : sc_ld L xs (nI q + 1) = some (xs (q + 1)) := sc_at (nI_add q 1) (by omega) hL
  have s2 : sc_ld L xs (nI q + 2) = some (xs (q + 2)) := sc_at (nI_add q 2) (by omega) hL
  have s3 : sc_ld L xs (nI q + 3) = some (xs (q + 3)) := sc_at (nI_add q 3) (by omega) hL
  have s4 : sc_ld L xs (nI q + 4) = some (xs (q + 4)) := sc_at (nI_add q 4) (by omega) hL
  have s5 : sc_ld L xs (nI q + 5) = some (xs (q + 5)) := sc_at (nI_add q 5) (by omega) hL
  have l3 := k.2.2.1.2.1.2.2.2.1
  have l5 := k.2.2.1.2.1.2.2.2.2.2.1
  have e6 := k.2.2.1.2.1.2.2.2.2.2.2.1
  have e7 := k.2.2.1.2.1.2.2.2.2.2.2.2.1
  have e9 := k.2.2.1.2.1.2.2.2.2.2.2.2.2.2
  unfold fn_law_4
  simp only [s1, s2, s3, s4, s5, h.ck, obs]
  rw [x_binCount h , b2s]
  exact lq h Fr.rf hM w ho (fun h1 => (rf_binCount h1 k ).imp (fun r F' A' z => ⟨z.1, k.qc z.2⟩))
theorem lc_5 (hN : 2 ^ 15 ≤ N) (hI : Inv M) (hq : q + 6 ≤ L) (hL : L ≤ 3072) : ∃ M', fn_law_5 N L xs M (nI q) 0 389 404 = some M' ∧ Inv M' := by
  obtain ⟨bf, κ, σ, U, sn, F, A, h, hM, k, w, ho⟩ := hI
  have ho' := ho
  have s1 : sc_ld L xs (nI q + 1) = some (xs (q + 1)) := sc_at (nI_add q 1) (by omega) hL
  have s2 : sc_ld L xs (nI q + 2) = some (xs (q + 2)) := sc_at (nI_add q 2) (by omega) hL
  have s3 : sc_ld L xs (nI q + 3) = some (xs (q + 3)) := sc_at (nI_add q 3) (by omega) hL
  have s4 : sc_ld L xs (nI q + 4) = some (xs (q + 4)) := sc_at (nI_add q 4) (by omega) hL
  have s5 : sc_ld L xs (nI q + 5) = some (xs (q + 5)) := sc_at (nI_add q 5) (by omega) hL
  have l3 := k.2.2.1.2.1.2.2.2.1
  have l5 := k.2.2.1.2.1.2.2.2.2.2.1
  have e6 := k.2.2.1.2.1.2.2.2.2.2.2.1
  have e7 := k.2.2.1.2.1.2.2.2.2.2.2.2.1
  have e9 := k.2.2.1.2.1.2.2.2.2.2.2.2.2.2
  unfold fn_law_5
  simp only [s1, s2, s3, s4, s5, h.ck, obs]
  rw [x_typeValue h (xs (q + 1)), b2s]
  exact lq h Fr.rf hM w ho (fun h1 => (rf_typeValue h1 k w (xs (q + 1))).imp (fun r F' A' z => ⟨z.1, k.qc z.2⟩))
theorem lc_6 (hN : 2 ^ 15 ≤ N) (hI : Inv M) (hq : q + 6 ≤ L) (hL : L ≤ 3072) : ∃ M', fn_law_6 N L xs M (nI q) 0 389 404 = some M' ∧ Inv M' := by
  obtain ⟨bf, κ, σ, U, sn, F, A, h, hM, k, w, ho⟩ := hI
  have ho' := ho
  have s1 : sc_ld L xs (nI q + 1) = some (xs (q + 1)) := sc_at (nI_add q 1) (by omega) hL
  have s2 : sc_ld L xs (nI q + 2) = some (xs (q + 2)) := sc_at (nI_add q 2) (by omega) hL
  have s3 : sc_ld L xs (nI q + 3) = some (xs (q + 3)) := sc_at (nI_add q 3) (by omega) hL
  have s4 : sc_ld L xs (nI q + 4) = some (xs (q + 4)) := sc_at (nI_add q 4) (by omega) hL
  have s5 : sc_ld L xs (nI q + 5) = some (xs (q + 5)) := sc_at (nI_add q 5) (by omega) hL
  have l3 := k.2.2.1.2.1.2.2.2.1
  have l5 := k.2.2.1.2.1.2.2.2.2.2.1
  have e6 := k.2.2.1.2.1.2.2.2.2.2.2.1
  have e7 := k.2.2.1.2.1.2.2.2.2.2.2.2.1
  have e9 := k.2.2.1.2.1.2.2.2.2.2.2.2.2.2
  unfold fn_law_6
  simp only [s1, s2, s3, s4, s5, h.ck, obs]
  rw [x_binType h (xs (q + 1)), b2s]
  exact lq h Fr.rf hM w ho (fun h1 => (rf_binType h1 k w (xs (q + 1))).imp (fun r F' A' z => ⟨z.1, k.qc z.2⟩))
theorem lc_7 (hN : 2 ^ 15 ≤ N) (hI : Inv M) (hq : q + 6 ≤ L) (hL : L ≤ 3072) : ∃ M', fn_law_7 N L xs M (nI q) 0 389 404 = some M' ∧ Inv M' := by
  obtain ⟨bf, κ, σ, U, sn, F, A, h, hM, k, w, ho⟩ := hI
  have ho' := ho
  have s1 : sc_ld L xs (nI q + 1) = some (xs (q + 1)) := sc_at (nI_add q 1) (by omega) hL
  have s2 : sc_ld L xs (nI q + 2) = some (xs (q + 2)) := sc_at (nI_add q 2) (by omega) hL
  have s3 : sc_ld L xs (nI q + 3) = some (xs (q + 3)) := sc_at (nI_add q 3) (by omega) hL
  have s4 : sc_ld L xs (nI q + 4) = some (xs (q + 4)) := sc_at (nI_add q 4) (by omega) hL
  have s5 : sc_ld L xs (nI q + 5) = some (xs (q + 5)) := sc_at (nI_add q 5) (by omega) hL
  have l3 := k.2.2.1.2.1.2.2.2.1
  have l5 := k.2.2.1.2.1.2.2.2.2.2.1
  have e6 := k.2.2.1.2.1.2.2.2.2.2.2.1
  have e7 := k.2.2.1.2.1.2.2.2.2.2.2.2.1
  have e9 := k.2.2.1.2.1.2.2.2.2.2.2.2.2.2
  unfold fn_law_7
  simp only [s1, s2, s3, s4, s5, h.ck, obs]
  rw [x_bagSize h (xs (q + 1)), b2s]
  exact lq h Fr.rf hM w ho (fun h1 => (rf_bagSize h1 k w (xs (q + 1))).imp (fun r F' A' z => ⟨z.1, k.qc z.2⟩))
theorem lc_10 (hN : 2 ^ 15 ≤ N) (hI : Inv M) (hq : q + 6 ≤ L) (hL : L ≤ 3072) : ∃ M', fn_law_10 N L xs M (nI q) 0 389 404 = some M' ∧ Inv M' := by
  obtain ⟨bf, κ, σ, U, sn, F, A, h, hM, k, w, ho⟩ := hI
  have ho' := ho
  have s1 : sc_ld L xs (nI q + 1) = some (xs (q + 1)) := sc_at (nI_add q 1) (by omega) hL
  have s2 : sc_ld L xs (nI q + 2) = some (xs (q + 2)) := sc_at (nI_add q 2) (by omega) hL
  have s3 : sc_ld L xs (nI q + 3) = some (xs (q + 3)) := sc_at (nI_add q 3) (by omega) hL
  have s4 : sc_ld L xs (nI q + 4) = some (xs (q + 4)) := sc_at (nI_add q 4) (by omega) hL
  have s5 : sc_ld L xs (nI q + 5) = some (xs (q + 5)) := sc_at (nI_add q 5) (by omega) hL
  have l3 := k.2.2.1.2.1.2.2.2.1
  have l5 := k.2.2.1.2.1.2.2.2.2.2.1
  have e6 := k.2.2.1.2.1.2.2.2.2.2.2.1
  have e7 := k.2.2.1.2.1.2.2.2.2.2.2.2.1
  have e9 := k.2.2.1.2.1.2.2.2.2.2.2.2.2.2
  unfold fn_law_10
  simp only [s1, s2, s3, s4, s5, h.ck, obs]
  rw [x_diameterOffset h , b2s]
  exact lq h Fr.rf hM w ho (fun h1 => (rf_diameterOffset h1 k ).imp (fun r F' A' z => ⟨z.1, k.qc z.2⟩))
theorem lc_11 (hN : 2 ^ 15 ≤ N) (hI : Inv M) (hq : q + 6 ≤ L) (hL : L ≤ 3072) : ∃ M', fn_law_11 N L xs M (nI q) 0 389 404 = some M' ∧ Inv M' := by
  obtain ⟨bf, κ, σ, U, sn, F, A, h, hM, k, w, ho⟩ := hI
  have ho' := ho
  have s1 : sc_ld L xs (nI q + 1) = some (xs (q + 1)) := sc_at (nI_add q 1) (by omega) hL
  have s2 : sc_ld L xs (nI q + 2) = some (xs (q + 2)) := sc_at (nI_add q 2) (by omega) hL
  have s3 : sc_ld L xs (nI q + 3) = some (xs (q + 3)) := sc_at (nI_add q 3) (by omega) hL
  have s4 : sc_ld L xs (nI q + 4) = some (xs (q + 4)) := sc_at (nI_add q 4) (by omega) hL
  have s5 : sc_ld L xs (nI q + 5) = some (xs (q + 5)) := sc_at (nI_add q 5) (by omega) hL
  have l3 := k.2.2.1.2.1.2.2.2.1
  have l5 := k.2.2.1.2.1.2.2.2.2.2.1
  have e6 := k.2.2.1.2.1.2.2.2.2.2.2.1
  have e7 := k.2.2.1.2.1.2.2.2.2.2.2.2.1
  have e9 := k.2.2.1.2.1.2.2.2.2.2.2.2.2.2
  unfold fn_law_11
  simp only [s1, s2, s3, s4, s5, h.ck, obs]
  rw [x_alloyOffset h , b2s]
  exact lq h Fr.rf hM w ho (fun h1 => (rf_alloyOffset h1 k ).imp (fun r F' A' z => ⟨z.1, k.qc z.2⟩))
theorem lc_12 (hN : 2 ^ 15 ≤ N) (hI : Inv M) (hq : q + 6 ≤ L) (hL : L ≤ 3072) : ∃ M', fn_law_12 N L xs M (nI q) 0 389 404 = some M' ∧ Inv M' := by
  obtain ⟨bf, κ, σ, U, sn, F, A, h, hM, k, w, ho⟩ := hI
  have ho' := ho
  have s1 : sc_ld L xs (nI q + 1) = some (xs (q + 1)) := sc_at (nI_add q 1) (by omega) hL
  have s2 : sc_ld L xs (nI q + 2) = some (xs (q + 2)) := sc_at (nI_add q 2) (by omega) hL
  have s3 : sc_ld L xs (nI q + 3) = some (xs (q + 3)) := sc_at (nI_add q 3) (by omega) hL
  have s4 : sc_ld L xs (nI q + 4) = some (xs (q + 4)) := sc_at (nI_add q 4) (by omega) hL
  have s5 : sc_ld L xs (nI q + 5) = some (xs (q + 5)) := sc_at (nI_add q 5) (by omega) hL
  have l3 := k.2.2.1.2.1.2.2.2.1
  have l5 := k.2.2.1.2.1.2.2.2.2.2.1
  have e6 := k.2.2.1.2.1.2.2.2.2.2.2.1
  have e7 := k.2.2.1.2.1.2.2.2.2.2.2.2.1
  have e9 := k.2.2.1.2.1.2.2.2.2.2.2.2.2.2
  unfold fn_law_12
  simp only [s1, s2, s3, s4, s5, h.ck, obs]
  rw [x_margin h , b2s]
  exact lq h Fr.rf hM w ho (fun h1 => (rf_margin h1 k ).imp (fun r F' A' z => ⟨z.1, k.qc z.2⟩))
theorem lc_13 (hN : 2 ^ 15 ≤ N) (hI : Inv M) (hq : q + 6 ≤ L) (hL : L ≤ 3072) : ∃ M', fn_law_13 N L xs M (nI q) 0 389 404 = some M' ∧ Inv M' := by
  obtain ⟨bf, κ, σ, U, sn, F, A, h, hM, k, w, ho⟩ := hI
  have ho' := ho
  have s1 : sc_ld L xs (nI q + 1) = some (xs (q + 1)) := sc_at (nI_add q 1) (by omega) hL
  have s2 : sc_ld L xs (nI q + 2) = some (xs (q + 2)) := sc_at (nI_add q 2) (by omega) hL
  have s3 : sc_ld L xs (nI q + 3) = some (xs (q + 3)) := sc_at (nI_add q 3) (by omega) hL
  have s4 : sc_ld L xs (nI q + 4) = some (xs (q + 4)) := sc_at (nI_add q 4) (by omega) hL
  have s5 : sc_ld L xs (nI q + 5) = some (xs (q + 5)) := sc_at (nI_add q 5) (by omega) hL
  have l3 := k.2.2.1.2.1.2.2.2.1
  have l5 := k.2.2.1.2.1.2.2.2.2.2.1
  have e6 := k.2.2.1.2.1.2.2.2.2.2.2.1
  have e7 := k.2.2.1.2.1.2.2.2.2.2.2.2.1
  have e9 := k.2.2.1.2.1.2.2.2.2.2.2.2.2.2
  unfold fn_law_13
  simp only [s1, s2, s3, s4, s5, h.ck, obs]
  rw [x_hopperSize h , b2s]
  exact lq h Fr.rf hM w ho (fun h1 => (rf_hopperSize h1 k ).imp (fun r F' A' z => ⟨z.1, k.qc z.2⟩))
theorem lc_14 (hN : 2 ^ 15 ≤ N) (hI : Inv M) (hq : q + 6 ≤ L) (hL : L ≤ 3072) : ∃ M', fn_law_14 N L xs M (nI q) 0 389 404 = some M' ∧ Inv M' := by
  obtain ⟨bf, κ, σ, U, sn, F, A, h, hM, k, w, ho⟩ := hI
  have ho' := ho
  have s1 : sc_ld L xs (nI q + 1) = some (xs (q + 1)) := sc_at (nI_add q 1) (by omega) hL
  have s2 : sc_ld L xs (nI q + 2) = some (xs (q + 2)) := sc_at (nI_add q 2) (by omega) hL
  have s3 : sc_ld L xs (nI q + 3) = some (xs (q + 3)) := sc_at (nI_add q 3) (by omega) hL
  have s4 : sc_ld L xs (nI q + 4) = some (xs (q + 4)) := sc_at (nI_add q 4) (by omega) hL
  have s5 : sc_ld L xs (nI q + 5) = some (xs (q + 5)) := sc_at (nI_add q 5) (by omega) hL
  have l3 := k.2.2.1.2.1.2.2.2.1
  have l5 := k.2.2.1.2.1.2.2.2.2.2.1
  have e6 := k.2.2.1.2.1.2.2.2.2.2.2.1
  have e7 := k.2.2.1.2.1.2.2.2.2.2.2.2.1
  have e9 := k.2.2.1.2.1.2.2.2.2.2.2.2.2.2
  unfold fn_law_14
  simp only [s1, s2, s3, s4, s5, h.ck, obs]
  rw [x_loopSize h , b2s]
  exact lq h Fr.rf hM w ho (fun h1 => (rf_loopSize h1 k ).imp (fun r F' A' z => ⟨z.1, k.qc z.2⟩))
theorem lc_15 (hN : 2 ^ 15 ≤ N) (hI : Inv M) (hq : q + 6 ≤ L) (hL : L ≤ 3072) : ∃ M', fn_law_15 N L xs M (nI q) 0 389 404 = some M' ∧ Inv M' := by
  obtain ⟨bf, κ, σ, U, sn, F, A, h, hM, k, w, ho⟩ := hI
  have ho' := ho
  have s1 : sc_ld L xs (nI q + 1) = some (xs (q + 1)) := sc_at (nI_add q 1) (by omega) hL
  have s2 : sc_ld L xs (nI q + 2) = some (xs (q + 2)) := sc_at (nI_add q 2) (by omega) hL
  have s3 : sc_ld L xs (nI q + 3) = some (xs (q + 3)) := sc_at (nI_add q 3) (by omega) hL
  have s4 : sc_ld L xs (nI q + 4) = some (xs (q + 4)) := sc_at (nI_add q 4) (by omega) hL
  have s5 : sc_ld L xs (nI q + 5) = some (xs (q + 5)) := sc_at (nI_add q 5) (by omega) hL
  have l3 := k.2.2.1.2.1.2.2.2.1
  have l5 := k.2.2.1.2.1.2.2.2.2.2.1
  have e6 := k.2.2.1.2.1.2.2.2.2.2.2.1
  have e7 := k.2.2.1.2.1.2.2.2.2.2.2.2.1
  have e9 := k.2.2.1.2.1.2.2.2.2.2.2.2.2.2
  unfold fn_law_15
  simp only [s1, s2, s3, s4, s5, h.ck, obs]
  rw [x_loopType h (xs (q + 1)), b2s]
  exact lq h Fr.rf hM w ho (fun h1 => (rf_loopType h1 k w (xs (q + 1))).imp (fun r F' A' z => ⟨z.1, k.qc z.2⟩))
theorem lc_16 (hN : 2 ^ 15 ≤ N) (hI : Inv M) (hq : q + 6 ≤ L) (hL : L ≤ 3072) : ∃ M', fn_law_16 N L xs M (nI q) 0 389 404 = some M' ∧ Inv M' := by
  obtain ⟨bf, κ, σ, U, sn, F, A, h, hM, k, w, ho⟩ := hI
  have ho' := ho
  have s1 : sc_ld L xs (nI q + 1) = some (xs (q + 1)) := sc_at (nI_add q 1) (by omega) hL
  have s2 : sc_ld L xs (nI q + 2) = some (xs (q + 2)) := sc_at (nI_add q 2) (by omega) hL
  have s3 : sc_ld L xs (nI q + 3) = some (xs (q + 3)) := sc_at (nI_add q 3) (by omega) hL
  have s4 : sc_ld L xs (nI q + 4) = some (xs (q + 4)) := sc_at (nI_add q 4) (by omega) hL
  have s5 : sc_ld L xs (nI q + 5) = some (xs (q + 5)) := sc_at (nI_add q 5) (by omega) hL
  have l3 := k.2.2.1.2.1.2.2.2.1
  have l5 := k.2.2.1.2.1.2.2.2.2.2.1
  have e6 := k.2.2.1.2.1.2.2.2.2.2.2.1
  have e7 := k.2.2.1.2.1.2.2.2.2.2.2.2.1
  have e9 := k.2.2.1.2.1.2.2.2.2.2.2.2.2.2
  unfold fn_law_16
  simp only [s1, s2, s3, s4, s5, h.ck, obs]
  rw [x_isJammed h , b2s]
  exact lq h Fr.rf hM w ho (fun h1 => (rf_isJammed h1 k w ).imp (fun r F' A' z => ⟨z.1, k.qc z.2⟩))
theorem lc_18 (hN : 2 ^ 15 ≤ N) (hI : Inv M) (hq : q + 6 ≤ L) (hL : L ≤ 3072) : ∃ M', fn_law_18 N L xs M (nI q) 0 389 404 = some M' ∧ Inv M' := by
  obtain ⟨bf, κ, σ, U, sn, F, A, h, hM, k, w, ho⟩ := hI
  have ho' := ho
  have s1 : sc_ld L xs (nI q + 1) = some (xs (q + 1)) := sc_at (nI_add q 1) (by omega) hL
  have s2 : sc_ld L xs (nI q + 2) = some (xs (q + 2)) := sc_at (nI_add q 2) (by omega) hL
  have s3 : sc_ld L xs (nI q + 3) = some (xs (q + 3)) := sc_at (nI_add q 3) (by omega) hL
  have s4 : sc_ld L xs (nI q + 4) = some (xs (q + 4)) := sc_at (nI_add q 4) (by omega) hL
  have s5 : sc_ld L xs (nI q + 5) = some (xs (q + 5)) := sc_at (nI_add q 5) (by omega) hL
  have l3 := k.2.2.1.2.1.2.2.2.1
  have l5 := k.2.2.1.2.1.2.2.2.2.2.1
  have e6 := k.2.2.1.2.1.2.2.2.2.2.2.1
  have e7 := k.2.2.1.2.1.2.2.2.2.2.2.2.1
  have e9 := k.2.2.1.2.1.2.2.2.2.2.2.2.2.2
  unfold fn_law_18
  simp only [s1, s2, s3, s4, s5, h.ck, obs]
  rw [x_binCoins h (xs (q + 1)), b2s]
  exact lq h Fr.rf hM w ho (fun h1 => (rf_binCoins h1 k w (xs (q + 1))).imp (fun r F' A' z => ⟨z.1, k.qc z.2⟩))
theorem lc_19 (hN : 2 ^ 15 ≤ N) (hI : Inv M) (hq : q + 6 ≤ L) (hL : L ≤ 3072) : ∃ M', fn_law_19 N L xs M (nI q) 0 389 404 = some M' ∧ Inv M' := by
  obtain ⟨bf, κ, σ, U, sn, F, A, h, hM, k, w, ho⟩ := hI
  have ho' := ho
  have s1 : sc_ld L xs (nI q + 1) = some (xs (q + 1)) := sc_at (nI_add q 1) (by omega) hL
  have s2 : sc_ld L xs (nI q + 2) = some (xs (q + 2)) := sc_at (nI_add q 2) (by omega) hL
  have s3 : sc_ld L xs (nI q + 3) = some (xs (q + 3)) := sc_at (nI_add q 3) (by omega) hL
  have s4 : sc_ld L xs (nI q + 4) = some (xs (q + 4)) := sc_at (nI_add q 4) (by omega) hL
  have s5 : sc_ld L xs (nI q + 5) = some (xs (q + 5)) := sc_at (nI_add q 5) (by omega) hL
  have l3 := k.2.2.1.2.1.2.2.2.1
  have l5 := k.2.2.1.2.1.2.2.2.2.2.1
  have e6 := k.2.2.1.2.1.2.2.2.2.2.2.1
  have e7 := k.2.2.1.2.1.2.2.2.2.2.2.2.1
  have e9 := k.2.2.1.2.1.2.2.2.2.2.2.2.2.2
  unfold fn_law_19
  simp only [s1, s2, s3, s4, s5, h.ck, obs]
  rw [x_binFor h hN w.1 w.2.1 (xs (q + 1)), b2s]
  exact lq h Fr.rf hM w ho (fun h1 => (rf_binFor hN h1 k w (xs (q + 1))).imp (fun r F' A' z => ⟨z.1, k.qc z.2⟩))
theorem lc_20 (hN : 2 ^ 15 ≤ N) (hI : Inv M) (hq : q + 6 ≤ L) (hL : L ≤ 3072) : ∃ M', fn_law_20 N L xs M (nI q) 0 389 404 = some M' ∧ Inv M' := by
  obtain ⟨bf, κ, σ, U, sn, F, A, h, hM, k, w, ho⟩ := hI
  have ho' := ho
  have s1 : sc_ld L xs (nI q + 1) = some (xs (q + 1)) := sc_at (nI_add q 1) (by omega) hL
  have s2 : sc_ld L xs (nI q + 2) = some (xs (q + 2)) := sc_at (nI_add q 2) (by omega) hL
  have s3 : sc_ld L xs (nI q + 3) = some (xs (q + 3)) := sc_at (nI_add q 3) (by omega) hL
  have s4 : sc_ld L xs (nI q + 4) = some (xs (q + 4)) := sc_at (nI_add q 4) (by omega) hL
  have s5 : sc_ld L xs (nI q + 5) = some (xs (q + 5)) := sc_at (nI_add q 5) (by omega) hL
  have l3 := k.2.2.1.2.1.2.2.2.1
  have l5 := k.2.2.1.2.1.2.2.2.2.2.1
  have e6 := k.2.2.1.2.1.2.2.2.2.2.2.1
  have e7 := k.2.2.1.2.1.2.2.2.2.2.2.2.1
  have e9 := k.2.2.1.2.1.2.2.2.2.2.2.2.2.2
  unfold fn_law_20
  simp only [s1, s2, s3, s4, s5, h.ck, obs]
  rw [x_rejected h (xs (q + 1)), b2s]
  exact lq h Fr.rf hM w ho (fun h1 => (rf_rejected h1 k (xs (q + 1))).imp (fun r F' A' z => ⟨z.1, k.qc z.2⟩))
theorem lc_21 (hN : 2 ^ 15 ≤ N) (hI : Inv M) (hq : q + 6 ≤ L) (hL : L ≤ 3072) : ∃ M', fn_law_21 N L xs M (nI q) 0 389 404 = some M' ∧ Inv M' := by
  obtain ⟨bf, κ, σ, U, sn, F, A, h, hM, k, w, ho⟩ := hI
  have ho' := ho
  have s1 : sc_ld L xs (nI q + 1) = some (xs (q + 1)) := sc_at (nI_add q 1) (by omega) hL
  have s2 : sc_ld L xs (nI q + 2) = some (xs (q + 2)) := sc_at (nI_add q 2) (by omega) hL
  have s3 : sc_ld L xs (nI q + 3) = some (xs (q + 3)) := sc_at (nI_add q 3) (by omega) hL
  have s4 : sc_ld L xs (nI q + 4) = some (xs (q + 4)) := sc_at (nI_add q 4) (by omega) hL
  have s5 : sc_ld L xs (nI q + 5) = some (xs (q + 5)) := sc_at (nI_add q 5) (by omega) hL
  have l3 := k.2.2.1.2.1.2.2.2.1
  have l5 := k.2.2.1.2.1.2.2.2.2.2.1
  have e6 := k.2.2.1.2.1.2.2.2.2.2.2.1
  have e7 := k.2.2.1.2.1.2.2.2.2.2.2.2.1
  have e9 := k.2.2.1.2.1.2.2.2.2.2.2.2.2.2
  unfold fn_law_21
  simp only [s1, s2, s3, s4, s5, h.ck, obs]
  rw [x_stepCount h , b2s]
  exact lq h Fr.rf hM w ho (fun h1 => (rf_stepCount h1 k ).imp (fun r F' A' z => ⟨z.1, k.qc z.2⟩))
theorem lc_22 (hN : 2 ^ 15 ≤ N) (hI : Inv M) (hq : q + 6 ≤ L) (hL : L ≤ 3072) : ∃ M', fn_law_22 N L xs M (nI q) 0 389 404 = some M' ∧ Inv M' := by
  obtain ⟨bf, κ, σ, U, sn, F, A, h, hM, k, w, ho⟩ := hI
  have ho' := ho
  have s1 : sc_ld L xs (nI q + 1) = some (xs (q + 1)) := sc_at (nI_add q 1) (by omega) hL
  have s2 : sc_ld L xs (nI q + 2) = some (xs (q + 2)) := sc_at (nI_add q 2) (by omega) hL
  have s3 : sc_ld L xs (nI q + 3) = some (xs (q + 3)) := sc_at (nI_add q 3) (by omega) hL
  have s4 : sc_ld L xs (nI q + 4) = some (xs (q + 4)) := sc_at (nI_add q 4) (by omega) hL
  have s5 : sc_ld L xs (nI q + 5) = some (xs (q + 5)) := sc_at (nI_add q 5) (by omega) hL
  have l3 := k.2.2.1.2.1.2.2.2.1
  have l5 := k.2.2.1.2.1.2.2.2.2.2.1
  have e6 := k.2.2.1.2.1.2.2.2.2.2.2.1
  have e7 := k.2.2.1.2.1.2.2.2.2.2.2.2.1
  have e9 := k.2.2.1.2.1.2.2.2.2.2.2.2.2.2
  unfold fn_law_22
  simp only [s1, s2, s3, s4, s5, h.ck, obs]
  rw [x_record h (xs (q + 1)), b2s]
  exact lq h Fr.rf hM w ho (fun h1 => (rf_record h1 k w (xs (q + 1))).imp (fun r F' A' z => ⟨z.1, k.qc z.2⟩))
theorem lc_23 (hN : 2 ^ 15 ≤ N) (hI : Inv M) (hq : q + 6 ≤ L) (hL : L ≤ 3072) : ∃ M', fn_law_23 N L xs M (nI q) 0 389 404 = some M' ∧ Inv M' := by
  obtain ⟨bf, κ, σ, U, sn, F, A, h, hM, k, w, ho⟩ := hI
  have ho' := ho
  have s1 : sc_ld L xs (nI q + 1) = some (xs (q + 1)) := sc_at (nI_add q 1) (by omega) hL
  have s2 : sc_ld L xs (nI q + 2) = some (xs (q + 2)) := sc_at (nI_add q 2) (by omega) hL
  have s3 : sc_ld L xs (nI q + 3) = some (xs (q + 3)) := sc_at (nI_add q 3) (by omega) hL
  have s4 : sc_ld L xs (nI q + 4) = some (xs (q + 4)) := sc_at (nI_add q 4) (by omega) hL
  have s5 : sc_ld L xs (nI q + 5) = some (xs (q + 5)) := sc_at (nI_add q 5) (by omega) hL
  have l3 := k.2.2.1.2.1.2.2.2.1
  have l5 := k.2.2.1.2.1.2.2.2.2.2.1
  have e6 := k.2.2.1.2.1.2.2.2.2.2.2.1
  have e7 := k.2.2.1.2.1.2.2.2.2.2.2.2.1
  have e9 := k.2.2.1.2.1.2.2.2.2.2.2.2.2.2
  unfold fn_law_23
  simp only [s1, s2, s3, s4, s5, h.ck, obs]
  rw [x_binValue h hN w.1 w.2.1 , b2s]
  exact lq h Fr.rf hM w ho (fun h1 => (rf_binValue hN h1 k w ).imp (fun r F' A' z => ⟨z.1, k.qc z.2⟩))
theorem lc_24 (hN : 2 ^ 15 ≤ N) (hI : Inv M) (hq : q + 6 ≤ L) (hL : L ≤ 3072) : ∃ M', fn_law_24 N L xs M (nI q) 0 389 404 = some M' ∧ Inv M' := by
  obtain ⟨bf, κ, σ, U, sn, F, A, h, hM, k, w, ho⟩ := hI
  have ho' := ho
  have s1 : sc_ld L xs (nI q + 1) = some (xs (q + 1)) := sc_at (nI_add q 1) (by omega) hL
  have s2 : sc_ld L xs (nI q + 2) = some (xs (q + 2)) := sc_at (nI_add q 2) (by omega) hL
  have s3 : sc_ld L xs (nI q + 3) = some (xs (q + 3)) := sc_at (nI_add q 3) (by omega) hL
  have s4 : sc_ld L xs (nI q + 4) = some (xs (q + 4)) := sc_at (nI_add q 4) (by omega) hL
  have s5 : sc_ld L xs (nI q + 5) = some (xs (q + 5)) := sc_at (nI_add q 5) (by omega) hL
  have l3 := k.2.2.1.2.1.2.2.2.1
  have l5 := k.2.2.1.2.1.2.2.2.2.2.1
  have e6 := k.2.2.1.2.1.2.2.2.2.2.2.1
  have e7 := k.2.2.1.2.1.2.2.2.2.2.2.2.1
  have e9 := k.2.2.1.2.1.2.2.2.2.2.2.2.2.2
  unfold fn_law_24
  simp only [s1, s2, s3, s4, s5, h.ck, obs]
  rw [x_bagCount h , b2s]
  exact lq h Fr.rf hM w ho (fun h1 => (rf_bagCount h1 k ).imp (fun r F' A' z => ⟨z.1, k.qc z.2⟩))
theorem lc_25 (hN : 2 ^ 15 ≤ N) (hI : Inv M) (hq : q + 6 ≤ L) (hL : L ≤ 3072) : ∃ M', fn_law_25 N L xs M (nI q) 0 389 404 = some M' ∧ Inv M' := by
  obtain ⟨bf, κ, σ, U, sn, F, A, h, hM, k, w, ho⟩ := hI
  have ho' := ho
  have s1 : sc_ld L xs (nI q + 1) = some (xs (q + 1)) := sc_at (nI_add q 1) (by omega) hL
  have s2 : sc_ld L xs (nI q + 2) = some (xs (q + 2)) := sc_at (nI_add q 2) (by omega) hL
  have s3 : sc_ld L xs (nI q + 3) = some (xs (q + 3)) := sc_at (nI_add q 3) (by omega) hL
  have s4 : sc_ld L xs (nI q + 4) = some (xs (q + 4)) := sc_at (nI_add q 4) (by omega) hL
  have s5 : sc_ld L xs (nI q + 5) = some (xs (q + 5)) := sc_at (nI_add q 5) (by omega) hL
  have l3 := k.2.2.1.2.1.2.2.2.1
  have l5 := k.2.2.1.2.1.2.2.2.2.2.1
  have e6 := k.2.2.1.2.1.2.2.2.2.2.2.1
  have e7 := k.2.2.1.2.1.2.2.2.2.2.2.2.1
  have e9 := k.2.2.1.2.1.2.2.2.2.2.2.2.2.2
  unfold fn_law_25
  simp only [s1, s2, s3, s4, s5, h.ck, obs]
  rw [x_bagType h (xs (q + 1)), b2s]
  exact lq h Fr.rf hM w ho (fun h1 => (rf_bagType h1 k w (xs (q + 1))).imp (fun r F' A' z => ⟨z.1, k.qc z.2⟩))
theorem lc_26 (hN : 2 ^ 15 ≤ N) (hI : Inv M) (hq : q + 6 ≤ L) (hL : L ≤ 3072) : ∃ M', fn_law_26 N L xs M (nI q) 0 389 404 = some M' ∧ Inv M' := by
  obtain ⟨bf, κ, σ, U, sn, F, A, h, hM, k, w, ho⟩ := hI
  have ho' := ho
  have s1 : sc_ld L xs (nI q + 1) = some (xs (q + 1)) := sc_at (nI_add q 1) (by omega) hL
  have s2 : sc_ld L xs (nI q + 2) = some (xs (q + 2)) := sc_at (nI_add q 2) (by omega) hL
  have s3 : sc_ld L xs (nI q + 3) = some (xs (q + 3)) := sc_at (nI_add q 3) (by omega) hL
  have s4 : sc_ld L xs (nI q + 4) = some (xs (q + 4)) := sc_at (nI_add q 4) (by omega) hL
  have s5 : sc_ld L xs (nI q + 5) = some (xs (q + 5)) := sc_at (nI_add q 5) (by omega) hL
  have l3 := k.2.2.1.2.1.2.2.2.1
  have l5 := k.2.2.1.2.1.2.2.2.2.2.1
  have e6 := k.2.2.1.2.1.2.2.2.2.2.2.1
  have e7 := k.2.2.1.2.1.2.2.2.2.2.2.2.1
  have e9 := k.2.2.1.2.1.2.2.2.2.2.2.2.2.2
  unfold fn_law_26
  simp only [s1, s2, s3, s4, s5, h.ck, obs]
  rw [x_bagCoins h (xs (q + 1)), b2s]
  exact lq h Fr.rf hM w ho (fun h1 => (rf_bagCoins h1 k w (xs (q + 1))).imp (fun r F' A' z => ⟨z.1, k.qc z.2⟩))
theorem lc_27 (hN : 2 ^ 15 ≤ N) (hI : Inv M) (hq : q + 6 ≤ L) (hL : L ≤ 3072) : ∃ M', fn_law_27 N L xs M (nI q) 0 389 404 = some M' ∧ Inv M' := by
  obtain ⟨bf, κ, σ, U, sn, F, A, h, hM, k, w, ho⟩ := hI
  have ho' := ho
  have s1 : sc_ld L xs (nI q + 1) = some (xs (q + 1)) := sc_at (nI_add q 1) (by omega) hL
  have s2 : sc_ld L xs (nI q + 2) = some (xs (q + 2)) := sc_at (nI_add q 2) (by omega) hL
  have s3 : sc_ld L xs (nI q + 3) = some (xs (q + 3)) := sc_at (nI_add q 3) (by omega) hL
  have s4 : sc_ld L xs (nI q + 4) = some (xs (q + 4)) := sc_at (nI_add q 4) (by omega) hL
  have s5 : sc_ld L xs (nI q + 5) = some (xs (q + 5)) := sc_at (nI_add q 5) (by omega) hL
  have l3 := k.2.2.1.2.1.2.2.2.1
  have l5 := k.2.2.1.2.1.2.2.2.2.2.1
  have e6 := k.2.2.1.2.1.2.2.2.2.2.2.1
  have e7 := k.2.2.1.2.1.2.2.2.2.2.2.2.1
  have e9 := k.2.2.1.2.1.2.2.2.2.2.2.2.2.2
  unfold fn_law_27
  simp only [s1, s2, s3, s4, s5, h.ck, obs]
  rw [x_discrepancy h hN e6 e7 , b2s]
  exact lq h Fr.rf hM w ho (fun h1 => (rf_discrepancy hN h1 k w ).imp (fun r F' A' z => ⟨z.1, k.qc z.2⟩))
theorem lc_28 (hN : 2 ^ 15 ≤ N) (hI : Inv M) (hq : q + 6 ≤ L) (hL : L ≤ 3072) : ∃ M', fn_law_28 N L xs M (nI q) 0 389 404 = some M' ∧ Inv M' := by
  obtain ⟨bf, κ, σ, U, sn, F, A, h, hM, k, w, ho⟩ := hI
  have ho' := ho
  have s1 : sc_ld L xs (nI q + 1) = some (xs (q + 1)) := sc_at (nI_add q 1) (by omega) hL
  have s2 : sc_ld L xs (nI q + 2) = some (xs (q + 2)) := sc_at (nI_add q 2) (by omega) hL
  have s3 : sc_ld L xs (nI q + 3) = some (xs (q + 3)) := sc_at (nI_add q 3) (by omega) hL
  have s4 : sc_ld L xs (nI q + 4) = some (xs (q + 4)) := sc_at (nI_add q 4) (by omega) hL
  have s5 : sc_ld L xs (nI q + 5) = some (xs (q + 5)) := sc_at (nI_add q 5) (by omega) hL
  have l3 := k.2.2.1.2.1.2.2.2.1
  have l5 := k.2.2.1.2.1.2.2.2.2.2.1
  have e6 := k.2.2.1.2.1.2.2.2.2.2.2.1
  have e7 := k.2.2.1.2.1.2.2.2.2.2.2.2.1
  have e9 := k.2.2.1.2.1.2.2.2.2.2.2.2.2.2
  unfold fn_law_28
  simp only [s1, s2, s3, s4, s5, h.ck, obs]
  rw [x_worstBag h hN e6 e7 , b2s]
  exact lq h Fr.rf hM w ho (fun h1 => (rf_worstBag hN h1 k w ).imp (fun r F' A' z => ⟨z.1, k.qc z.2⟩))
theorem lc_31 (hN : 2 ^ 15 ≤ N) (hI : Inv M) (hq : q + 6 ≤ L) (hL : L ≤ 3072) : ∃ M', fn_law_31 N L xs M (nI q) 0 389 404 = some M' ∧ Inv M' := by
  obtain ⟨bf, κ, σ, U, sn, F, A, h, hM, k, w, ho⟩ := hI
  have ho' := ho
  have s1 : sc_ld L xs (nI q + 1) = some (xs (q + 1)) := sc_at (nI_add q 1) (by omega) hL
  have s2 : sc_ld L xs (nI q + 2) = some (xs (q + 2)) := sc_at (nI_add q 2) (by omega) hL
  have s3 : sc_ld L xs (nI q + 3) = some (xs (q + 3)) := sc_at (nI_add q 3) (by omega) hL
  have s4 : sc_ld L xs (nI q + 4) = some (xs (q + 4)) := sc_at (nI_add q 4) (by omega) hL
  have s5 : sc_ld L xs (nI q + 5) = some (xs (q + 5)) := sc_at (nI_add q 5) (by omega) hL
  have l3 := k.2.2.1.2.1.2.2.2.1
  have l5 := k.2.2.1.2.1.2.2.2.2.2.1
  have e6 := k.2.2.1.2.1.2.2.2.2.2.2.1
  have e7 := k.2.2.1.2.1.2.2.2.2.2.2.2.1
  have e9 := k.2.2.1.2.1.2.2.2.2.2.2.2.2.2
  unfold fn_law_31
  simp only [s1, s2, s3, s4, s5, h.ck, obs]
  rw [x_sampleCount h , b2s]
  exact lq h Fr.rf hM w ho (fun h1 => (rf_sampleCount h1 k ).imp (fun r F' A' z => ⟨z.1, k.qc z.2⟩))
theorem lc_17 (hN : 2 ^ 15 ≤ N) (hI : Inv M) (hq : q + 6 ≤ L) (hL : L ≤ 3072) : ∃ M', fn_law_17 N L xs M (nI q) 0 389 404 = some M' ∧ Inv M' := by
  obtain ⟨bf, κ, σ, U, sn, F, A, h, hM, k, w, ho⟩ := hI
  have ho' := ho
  have s1 : sc_ld L xs (nI q + 1) = some (xs (q + 1)) := sc_at (nI_add q 1) (by omega) hL
  have s2 : sc_ld L xs (nI q + 2) = some (xs (q + 2)) := sc_at (nI_add q 2) (by omega) hL
  have s3 : sc_ld L xs (nI q + 3) = some (xs (q + 3)) := sc_at (nI_add q 3) (by omega) hL
  have s4 : sc_ld L xs (nI q + 4) = some (xs (q + 4)) := sc_at (nI_add q 4) (by omega) hL
  have s5 : sc_ld L xs (nI q + 5) = some (xs (q + 5)) := sc_at (nI_add q 5) (by omega) hL
  have l3 := k.2.2.1.2.1.2.2.2.1
  have l5 := k.2.2.1.2.1.2.2.2.2.2.1
  have e6 := k.2.2.1.2.1.2.2.2.2.2.2.1
  have e7 := k.2.2.1.2.1.2.2.2.2.2.2.2.1
  have e9 := k.2.2.1.2.1.2.2.2.2.2.2.2.2.2
  unfold fn_law_17
  simp only [s1, s2, s3, s4, s5, h.ck, obs]
  obtain ⟨M1, e1, x1, f1⟩ := x_isStopped (N := N) h hN w.1 w.2.1 
  rw [e1, b2s]
  exact lq x1 (f1.mono (by omega) (by omega)) hM w ho (fun h1 => (rf_isStopped hN h1 k w ).imp (fun r F' A' z => ⟨z.1, k.qc z.2⟩))
theorem lc_32 (hN : 2 ^ 15 ≤ N) (hI : Inv M) (hq : q + 6 ≤ L) (hL : L ≤ 3072) : ∃ M', fn_law_32 N L xs M (nI q) 0 389 404 = some M' ∧ Inv M' := by
  obtain ⟨bf, κ, σ, U, sn, F, A, h, hM, k, w, ho⟩ := hI
  have ho' := ho
  have s1 : sc_ld L xs (nI q + 1) = some (xs (q + 1)) := sc_at (nI_add q 1) (by omega) hL
  have s2 : sc_ld L xs (nI q + 2) = some (xs (q + 2)) := sc_at (nI_add q 2) (by omega) hL
  have s3 : sc_ld L xs (nI q + 3) = some (xs (q + 3)) := sc_at (nI_add q 3) (by omega) hL
  have s4 : sc_ld L xs (nI q + 4) = some (xs (q + 4)) := sc_at (nI_add q 4) (by omega) hL
  have s5 : sc_ld L xs (nI q + 5) = some (xs (q + 5)) := sc_at (nI_add q 5) (by omega) hL
  have l3 := k.2.2.1.2.1.2.2.2.1
  have l5 := k.2.2.1.2.1.2.2.2.2.2.1
  have e6 := k.2.2.1.2.1.2.2.2.2.2.2.1
  have e7 := k.2.2.1.2.1.2.2.2.2.2.2.2.1
  have e9 := k.2.2.1.2.1.2.2.2.2.2.2.2.2.2
  unfold fn_law_32
  simp only [s1, s2, s3, s4, s5, h.ck, obs]
  obtain ⟨M1, e1, x1, f1⟩ := x_sampleCost (N := N) h hN e9 (xs (q + 1))
  rw [e1, b2s]
  exact lq x1 (f1.mono (by omega) (by omega)) hM w ho (fun h1 => (rf_sampleCost hN h1 k w (xs (q + 1))).imp (fun r F' A' z => ⟨z.1, k.qc z.2⟩))
theorem lc_29 (hN : 2 ^ 15 ≤ N) (hI : Inv M) (hq : q + 6 ≤ L) (hL : L ≤ 3072) : ∃ M', fn_law_29 N L xs M (nI q) 0 389 404 = some M' ∧ Inv M' := by
  obtain ⟨bf, κ, σ, U, sn, F, A, h, hM, k, w, ho⟩ := hI
  have ho' := ho
  have s1 : sc_ld L xs (nI q + 1) = some (xs (q + 1)) := sc_at (nI_add q 1) (by omega) hL
  have s2 : sc_ld L xs (nI q + 2) = some (xs (q + 2)) := sc_at (nI_add q 2) (by omega) hL
  have s3 : sc_ld L xs (nI q + 3) = some (xs (q + 3)) := sc_at (nI_add q 3) (by omega) hL
  have s4 : sc_ld L xs (nI q + 4) = some (xs (q + 4)) := sc_at (nI_add q 4) (by omega) hL
  have s5 : sc_ld L xs (nI q + 5) = some (xs (q + 5)) := sc_at (nI_add q 5) (by omega) hL
  have l3 := k.2.2.1.2.1.2.2.2.1
  have l5 := k.2.2.1.2.1.2.2.2.2.2.1
  have e6 := k.2.2.1.2.1.2.2.2.2.2.2.1
  have e7 := k.2.2.1.2.1.2.2.2.2.2.2.2.1
  have e9 := k.2.2.1.2.1.2.2.2.2.2.2.2.2.2
  unfold fn_law_29
  simp only [s1, s2, s3, s4, s5, h.ck, obs]
  obtain ⟨M1, r1, e1, x1, f1, p1⟩ := x_payoutCoins (N := N) h hN w.1 w.2.1 (xs (q + 1))
  rw [e1, b2s]
  exact lq x1 (f1.mono (by omega) (by omega)) hM w ho (fun h1 => (rf_payoutCoins hN h1 k w (xs (q + 1))).imp (fun r F' A' z => ⟨PcR.uniq z.1 p1, k.qc z.2⟩))
theorem lc_30 (hN : 2 ^ 15 ≤ N) (hI : Inv M) (hq : q + 6 ≤ L) (hL : L ≤ 3072) : ∃ M', fn_law_30 N L xs M (nI q) 0 389 404 = some M' ∧ Inv M' := by
  obtain ⟨bf, κ, σ, U, sn, F, A, h, hM, k, w, ho⟩ := hI
  have ho' := ho
  have s1 : sc_ld L xs (nI q + 1) = some (xs (q + 1)) := sc_at (nI_add q 1) (by omega) hL
  have s2 : sc_ld L xs (nI q + 2) = some (xs (q + 2)) := sc_at (nI_add q 2) (by omega) hL
  have s3 : sc_ld L xs (nI q + 3) = some (xs (q + 3)) := sc_at (nI_add q 3) (by omega) hL
  have s4 : sc_ld L xs (nI q + 4) = some (xs (q + 4)) := sc_at (nI_add q 4) (by omega) hL
  have s5 : sc_ld L xs (nI q + 5) = some (xs (q + 5)) := sc_at (nI_add q 5) (by omega) hL
  have l3 := k.2.2.1.2.1.2.2.2.1
  have l5 := k.2.2.1.2.1.2.2.2.2.2.1
  have e6 := k.2.2.1.2.1.2.2.2.2.2.2.1
  have e7 := k.2.2.1.2.1.2.2.2.2.2.2.2.1
  have e9 := k.2.2.1.2.1.2.2.2.2.2.2.2.2.2
  unfold fn_law_30
  simp only [s1, s2, s3, s4, s5, h.ck, obs]
  obtain ⟨M1, r1, e1, x1, f1, p1⟩ := x_payoutOf (N := N) h hN w.1 w.2.1 (xs (q + 1)) (xs (q + 2))
  rw [e1, b2s]
  exact lq x1 (f1.mono (by omega) (by omega)) hM w ho (fun h1 => (rf_payoutOf hN h1 k w (xs (q + 1)) (xs (q + 2))).imp (fun r F' A' z => ⟨PoR.uniq z.1 p1, k.qc z.2⟩))
theorem lc_33 (hN : 2 ^ 15 ≤ N) (hI : Inv M) (hq : q + 6 ≤ L) (hL : L ≤ 3072) : ∃ M', fn_law_33 N L xs M (nI q) 0 389 404 = some M' ∧ Inv M' := by
  obtain ⟨bf, κ, σ, U, sn, F, A, h, hM, k, w, ho⟩ := hI
  have ho' := ho
  have s1 : sc_ld L xs (nI q + 1) = some (xs (q + 1)) := sc_at (nI_add q 1) (by omega) hL
  have s2 : sc_ld L xs (nI q + 2) = some (xs (q + 2)) := sc_at (nI_add q 2) (by omega) hL
  have s3 : sc_ld L xs (nI q + 3) = some (xs (q + 3)) := sc_at (nI_add q 3) (by omega) hL
  have s4 : sc_ld L xs (nI q + 4) = some (xs (q + 4)) := sc_at (nI_add q 4) (by omega) hL
  have s5 : sc_ld L xs (nI q + 5) = some (xs (q + 5)) := sc_at (nI_add q 5) (by omega) hL
  have l3 := k.2.2.1.2.1.2.2.2.1
  have l5 := k.2.2.1.2.1.2.2.2.2.2.1
  have e6 := k.2.2.1.2.1.2.2.2.2.2.2.1
  have e7 := k.2.2.1.2.1.2.2.2.2.2.2.2.1
  have e9 := k.2.2.1.2.1.2.2.2.2.2.2.2.2.2
  unfold fn_law_33
  simp only [s1, s2, s3, s4, s5, h.ck, obs]
  obtain ⟨M1, b1, l1, e1, x1, f1, p1⟩ := x_bestMargin (N := N) h hN w.1 w.2.1 e9
  rw [e1, b2s]
  refine lq x1 (f1.mono (by omega) (by omega)) hM w ho (fun h1 => (rf_bestMargin hN h1 k w).imp ?_)
  rintro r F' A' ⟨⟨b2, l2, rfl, p2⟩, z⟩
  exact ⟨by rw [best_eq p2 p1], k.qc z⟩
theorem lc_34 (hN : 2 ^ 15 ≤ N) (hI : Inv M) (hq : q + 6 ≤ L) (hL : L ≤ 3072) : ∃ M', fn_law_34 N L xs M (nI q) 0 389 404 = some M' ∧ Inv M' := by
  obtain ⟨bf, κ, σ, U, sn, F, A, h, hM, k, w, ho⟩ := hI
  have ho' := ho
  have s1 : sc_ld L xs (nI q + 1) = some (xs (q + 1)) := sc_at (nI_add q 1) (by omega) hL
  have s2 : sc_ld L xs (nI q + 2) = some (xs (q + 2)) := sc_at (nI_add q 2) (by omega) hL
  have s3 : sc_ld L xs (nI q + 3) = some (xs (q + 3)) := sc_at (nI_add q 3) (by omega) hL
  have s4 : sc_ld L xs (nI q + 4) = some (xs (q + 4)) := sc_at (nI_add q 4) (by omega) hL
  have s5 : sc_ld L xs (nI q + 5) = some (xs (q + 5)) := sc_at (nI_add q 5) (by omega) hL
  have l3 := k.2.2.1.2.1.2.2.2.1
  have l5 := k.2.2.1.2.1.2.2.2.2.2.1
  have e6 := k.2.2.1.2.1.2.2.2.2.2.2.1
  have e7 := k.2.2.1.2.1.2.2.2.2.2.2.2.1
  have e9 := k.2.2.1.2.1.2.2.2.2.2.2.2.2.2
  unfold fn_law_34
  simp only [s1, s2, s3, s4, s5, h.ck, obs]
  obtain ⟨M1, e1, x1, f1⟩ := x_calibrate (N := N) h  (xs (q + 1)) (xs (q + 2)) (xs (q + 3))
  rw [e1, b2s]
  exact lq x1 f1 hM (wf_cb w (xs (q + 1)) (xs (q + 2)) (xs (q + 3))) ho (fun h1 => rf_calibrate hN h1 k w (xs (q + 1)) (xs (q + 2)) (xs (q + 3)))
theorem lc_35 (hN : 2 ^ 15 ≤ N) (hI : Inv M) (hq : q + 6 ≤ L) (hL : L ≤ 3072) : ∃ M', fn_law_35 N L xs M (nI q) 0 389 404 = some M' ∧ Inv M' := by
  obtain ⟨bf, κ, σ, U, sn, F, A, h, hM, k, w, ho⟩ := hI
  have ho' := ho
  have s1 : sc_ld L xs (nI q + 1) = some (xs (q + 1)) := sc_at (nI_add q 1) (by omega) hL
  have s2 : sc_ld L xs (nI q + 2) = some (xs (q + 2)) := sc_at (nI_add q 2) (by omega) hL
  have s3 : sc_ld L xs (nI q + 3) = some (xs (q + 3)) := sc_at (nI_add q 3) (by omega) hL
  have s4 : sc_ld L xs (nI q + 4) = some (xs (q + 4)) := sc_at (nI_add q 4) (by omega) hL
  have s5 : sc_ld L xs (nI q + 5) = some (xs (q + 5)) := sc_at (nI_add q 5) (by omega) hL
  have l3 := k.2.2.1.2.1.2.2.2.1
  have l5 := k.2.2.1.2.1.2.2.2.2.2.1
  have e6 := k.2.2.1.2.1.2.2.2.2.2.2.1
  have e7 := k.2.2.1.2.1.2.2.2.2.2.2.2.1
  have e9 := k.2.2.1.2.1.2.2.2.2.2.2.2.2.2
  unfold fn_law_35
  simp only [s1, s2, s3, s4, s5, h.ck, obs]
  obtain ⟨M1, e1, x1, f1⟩ := x_setMargin (N := N) h  (xs (q + 1))
  rw [e1, b2s]
  exact lq x1 f1 hM (wf_sm w (xs (q + 1))) ho (fun h1 => rf_setMargin hN h1 k (xs (q + 1)))
theorem lc_36 (hN : 2 ^ 15 ≤ N) (hI : Inv M) (hq : q + 6 ≤ L) (hL : L ≤ 3072) : ∃ M', fn_law_36 N L xs M (nI q) 0 389 404 = some M' ∧ Inv M' := by
  obtain ⟨bf, κ, σ, U, sn, F, A, h, hM, k, w, ho⟩ := hI
  have ho' := ho
  have s1 : sc_ld L xs (nI q + 1) = some (xs (q + 1)) := sc_at (nI_add q 1) (by omega) hL
  have s2 : sc_ld L xs (nI q + 2) = some (xs (q + 2)) := sc_at (nI_add q 2) (by omega) hL
  have s3 : sc_ld L xs (nI q + 3) = some (xs (q + 3)) := sc_at (nI_add q 3) (by omega) hL
  have s4 : sc_ld L xs (nI q + 4) = some (xs (q + 4)) := sc_at (nI_add q 4) (by omega) hL
  have s5 : sc_ld L xs (nI q + 5) = some (xs (q + 5)) := sc_at (nI_add q 5) (by omega) hL
  have l3 := k.2.2.1.2.1.2.2.2.1
  have l5 := k.2.2.1.2.1.2.2.2.2.2.1
  have e6 := k.2.2.1.2.1.2.2.2.2.2.2.1
  have e7 := k.2.2.1.2.1.2.2.2.2.2.2.2.1
  have e9 := k.2.2.1.2.1.2.2.2.2.2.2.2.2.2
  unfold fn_law_36
  simp only [s1, s2, s3, s4, s5, h.ck, obs]
  obtain ⟨M1, e1, x1, f1⟩ := x_insert (N := N) h  (xs (q + 1)) (xs (q + 2))
  rw [e1, b2s]
  exact lq x1 f1 hM (wf_in w (xs (q + 1)) (xs (q + 2))) ho (fun h1 => rf_insert hN h1 k (xs (q + 1)) (xs (q + 2)))
theorem lc_37 (hN : 2 ^ 15 ≤ N) (hI : Inv M) (hq : q + 6 ≤ L) (hL : L ≤ 3072) : ∃ M', fn_law_37 N L xs M (nI q) 0 389 404 = some M' ∧ Inv M' := by
  obtain ⟨bf, κ, σ, U, sn, F, A, h, hM, k, w, ho⟩ := hI
  have ho' := ho
  have s1 : sc_ld L xs (nI q + 1) = some (xs (q + 1)) := sc_at (nI_add q 1) (by omega) hL
  have s2 : sc_ld L xs (nI q + 2) = some (xs (q + 2)) := sc_at (nI_add q 2) (by omega) hL
  have s3 : sc_ld L xs (nI q + 3) = some (xs (q + 3)) := sc_at (nI_add q 3) (by omega) hL
  have s4 : sc_ld L xs (nI q + 4) = some (xs (q + 4)) := sc_at (nI_add q 4) (by omega) hL
  have s5 : sc_ld L xs (nI q + 5) = some (xs (q + 5)) := sc_at (nI_add q 5) (by omega) hL
  have l3 := k.2.2.1.2.1.2.2.2.1
  have l5 := k.2.2.1.2.1.2.2.2.2.2.1
  have e6 := k.2.2.1.2.1.2.2.2.2.2.2.1
  have e7 := k.2.2.1.2.1.2.2.2.2.2.2.2.1
  have e9 := k.2.2.1.2.1.2.2.2.2.2.2.2.2.2
  unfold fn_law_37
  simp only [s1, s2, s3, s4, s5, h.ck, obs]
  obtain ⟨M1, e1, x1, f1⟩ := x_step (N := N) h hN w.1 w.2.1 l3 
  rw [e1, b2s]
  exact lq x1 f1 hM (wf_st w l3 ) ho (fun h1 => rf_step hN h1 k w )
theorem lc_38 (hN : 2 ^ 15 ≤ N) (hI : Inv M) (hq : q + 6 ≤ L) (hL : L ≤ 3072) : ∃ M', fn_law_38 N L xs M (nI q) 0 389 404 = some M' ∧ Inv M' := by
  obtain ⟨bf, κ, σ, U, sn, F, A, h, hM, k, w, ho⟩ := hI
  have ho' := ho
  have s1 : sc_ld L xs (nI q + 1) = some (xs (q + 1)) := sc_at (nI_add q 1) (by omega) hL
  have s2 : sc_ld L xs (nI q + 2) = some (xs (q + 2)) := sc_at (nI_add q 2) (by omega) hL
  have s3 : sc_ld L xs (nI q + 3) = some (xs (q + 3)) := sc_at (nI_add q 3) (by omega) hL
  have s4 : sc_ld L xs (nI q + 4) = some (xs (q + 4)) := sc_at (nI_add q 4) (by omega) hL
  have s5 : sc_ld L xs (nI q + 5) = some (xs (q + 5)) := sc_at (nI_add q 5) (by omega) hL
  have l3 := k.2.2.1.2.1.2.2.2.1
  have l5 := k.2.2.1.2.1.2.2.2.2.2.1
  have e6 := k.2.2.1.2.1.2.2.2.2.2.2.1
  have e7 := k.2.2.1.2.1.2.2.2.2.2.2.2.1
  have e9 := k.2.2.1.2.1.2.2.2.2.2.2.2.2.2
  unfold fn_law_38
  simp only [s1, s2, s3, s4, s5, h.ck, obs]
  obtain ⟨M1, e1, x1, f1⟩ := x_run (N := N) h hN w.1 w.2.1 l3 (xs (q + 1))
  rw [e1, b2s]
  exact lq x1 f1 hM (wf_rn w l3 (xs (q + 1))) ho (fun h1 => rf_run hN h1 k w (xs (q + 1)))
theorem lc_39 (hN : 2 ^ 15 ≤ N) (hI : Inv M) (hq : q + 6 ≤ L) (hL : L ≤ 3072) : ∃ M', fn_law_39 N L xs M (nI q) 0 389 404 = some M' ∧ Inv M' := by
  obtain ⟨bf, κ, σ, U, sn, F, A, h, hM, k, w, ho⟩ := hI
  have ho' := ho
  have s1 : sc_ld L xs (nI q + 1) = some (xs (q + 1)) := sc_at (nI_add q 1) (by omega) hL
  have s2 : sc_ld L xs (nI q + 2) = some (xs (q + 2)) := sc_at (nI_add q 2) (by omega) hL
  have s3 : sc_ld L xs (nI q + 3) = some (xs (q + 3)) := sc_at (nI_add q 3) (by omega) hL
  have s4 : sc_ld L xs (nI q + 4) = some (xs (q + 4)) := sc_at (nI_add q 4) (by omega) hL
  have s5 : sc_ld L xs (nI q + 5) = some (xs (q + 5)) := sc_at (nI_add q 5) (by omega) hL
  have l3 := k.2.2.1.2.1.2.2.2.1
  have l5 := k.2.2.1.2.1.2.2.2.2.2.1
  have e6 := k.2.2.1.2.1.2.2.2.2.2.2.1
  have e7 := k.2.2.1.2.1.2.2.2.2.2.2.2.1
  have e9 := k.2.2.1.2.1.2.2.2.2.2.2.2.2.2
  unfold fn_law_39
  simp only [s1, s2, s3, s4, s5, h.ck, obs]
  obtain ⟨M1, e1, x1, f1⟩ := x_clearJam (N := N) h l3 
  rw [e1, b2s]
  exact lq x1 f1 hM (wf_cj w ) ho (fun h1 => rf_clearJam hN h1 k )
theorem lc_40 (hN : 2 ^ 15 ≤ N) (hI : Inv M) (hq : q + 6 ≤ L) (hL : L ≤ 3072) : ∃ M', fn_law_40 N L xs M (nI q) 0 389 404 = some M' ∧ Inv M' := by
  obtain ⟨bf, κ, σ, U, sn, F, A, h, hM, k, w, ho⟩ := hI
  have ho' := ho
  have s1 : sc_ld L xs (nI q + 1) = some (xs (q + 1)) := sc_at (nI_add q 1) (by omega) hL
  have s2 : sc_ld L xs (nI q + 2) = some (xs (q + 2)) := sc_at (nI_add q 2) (by omega) hL
  have s3 : sc_ld L xs (nI q + 3) = some (xs (q + 3)) := sc_at (nI_add q 3) (by omega) hL
  have s4 : sc_ld L xs (nI q + 4) = some (xs (q + 4)) := sc_at (nI_add q 4) (by omega) hL
  have s5 : sc_ld L xs (nI q + 5) = some (xs (q + 5)) := sc_at (nI_add q 5) (by omega) hL
  have l3 := k.2.2.1.2.1.2.2.2.1
  have l5 := k.2.2.1.2.1.2.2.2.2.2.1
  have e6 := k.2.2.1.2.1.2.2.2.2.2.2.1
  have e7 := k.2.2.1.2.1.2.2.2.2.2.2.2.1
  have e9 := k.2.2.1.2.1.2.2.2.2.2.2.2.2.2
  unfold fn_law_40
  simp only [s1, s2, s3, s4, s5, h.ck, obs]
  obtain ⟨M1, e1, x1, f1⟩ := x_changeBag (N := N) h w.1 w.2.1 e6 e7 (xs (q + 1))
  rw [e1, b2s]
  exact lq x1 f1 hM (wf_bg w e7 (xs (q + 1))) ho (fun h1 => rf_changeBag hN h1 k w (xs (q + 1)))
theorem lc_43 (hN : 2 ^ 15 ≤ N) (hI : Inv M) (hq : q + 6 ≤ L) (hL : L ≤ 3072) : ∃ M', fn_law_43 N L xs M (nI q) 0 389 404 = some M' ∧ Inv M' := by
  obtain ⟨bf, κ, σ, U, sn, F, A, h, hM, k, w, ho⟩ := hI
  have ho' := ho
  have s1 : sc_ld L xs (nI q + 1) = some (xs (q + 1)) := sc_at (nI_add q 1) (by omega) hL
  have s2 : sc_ld L xs (nI q + 2) = some (xs (q + 2)) := sc_at (nI_add q 2) (by omega) hL
  have s3 : sc_ld L xs (nI q + 3) = some (xs (q + 3)) := sc_at (nI_add q 3) (by omega) hL
  have s4 : sc_ld L xs (nI q + 4) = some (xs (q + 4)) := sc_at (nI_add q 4) (by omega) hL
  have s5 : sc_ld L xs (nI q + 5) = some (xs (q + 5)) := sc_at (nI_add q 5) (by omega) hL
  have l3 := k.2.2.1.2.1.2.2.2.1
  have l5 := k.2.2.1.2.1.2.2.2.2.2.1
  have e6 := k.2.2.1.2.1.2.2.2.2.2.2.1
  have e7 := k.2.2.1.2.1.2.2.2.2.2.2.2.1
  have e9 := k.2.2.1.2.1.2.2.2.2.2.2.2.2.2
  unfold fn_law_43
  simp only [s1, s2, s3, s4, s5, h.ck, obs]
  obtain ⟨M1, e1, x1, f1⟩ := x_addSample (N := N) h e9 (xs (q + 1)) (xs (q + 2)) (xs (q + 3))
  rw [e1, b2s]
  exact lq x1 f1 hM (wf_as w e9 (xs (q + 1)) (xs (q + 2)) (xs (q + 3))) ho (fun h1 => rf_addSample hN h1 k w (xs (q + 1)) (xs (q + 2)) (xs (q + 3)))
theorem lc_44 (hN : 2 ^ 15 ≤ N) (hI : Inv M) (hq : q + 6 ≤ L) (hL : L ≤ 3072) : ∃ M', fn_law_44 N L xs M (nI q) 0 389 404 = some M' ∧ Inv M' := by
  obtain ⟨bf, κ, σ, U, sn, F, A, h, hM, k, w, ho⟩ := hI
  have ho' := ho
  have s1 : sc_ld L xs (nI q + 1) = some (xs (q + 1)) := sc_at (nI_add q 1) (by omega) hL
  have s2 : sc_ld L xs (nI q + 2) = some (xs (q + 2)) := sc_at (nI_add q 2) (by omega) hL
  have s3 : sc_ld L xs (nI q + 3) = some (xs (q + 3)) := sc_at (nI_add q 3) (by omega) hL
  have s4 : sc_ld L xs (nI q + 4) = some (xs (q + 4)) := sc_at (nI_add q 4) (by omega) hL
  have s5 : sc_ld L xs (nI q + 5) = some (xs (q + 5)) := sc_at (nI_add q 5) (by omega) hL
  have l3 := k.2.2.1.2.1.2.2.2.1
  have l5 := k.2.2.1.2.1.2.2.2.2.2.1
  have e6 := k.2.2.1.2.1.2.2.2.2.2.2.1
  have e7 := k.2.2.1.2.1.2.2.2.2.2.2.2.1
  have e9 := k.2.2.1.2.1.2.2.2.2.2.2.2.2.2
  unfold fn_law_44
  simp only [s1, s2, s3, s4, s5, h.ck, obs]
  obtain ⟨M1, e1, x1, f1⟩ := x_undo (N := N) h  
  rw [e1, b2s]
  exact lq x1 f1 hM (wf_ud w ) ho (fun h1 => rf_undo hN h1 k )
theorem lc_45 (hN : 2 ^ 15 ≤ N) (hI : Inv M) (hq : q + 6 ≤ L) (hL : L ≤ 3072) : ∃ M', fn_law_45 N L xs M (nI q) 0 389 404 = some M' ∧ Inv M' := by
  obtain ⟨bf, κ, σ, U, sn, F, A, h, hM, k, w, ho⟩ := hI
  have ho' := ho
  have s1 : sc_ld L xs (nI q + 1) = some (xs (q + 1)) := sc_at (nI_add q 1) (by omega) hL
  have s2 : sc_ld L xs (nI q + 2) = some (xs (q + 2)) := sc_at (nI_add q 2) (by omega) hL
  have s3 : sc_ld L xs (nI q + 3) = some (xs (q + 3)) := sc_at (nI_add q 3) (by omega) hL
  have s4 : sc_ld L xs (nI q + 4) = some (xs (q + 4)) := sc_at (nI_add q 4) (by omega) hL
  have s5 : sc_ld L xs (nI q + 5) = some (xs (q + 5)) := sc_at (nI_add q 5) (by omega) hL
  have l3 := k.2.2.1.2.1.2.2.2.1
  have l5 := k.2.2.1.2.1.2.2.2.2.2.1
  have e6 := k.2.2.1.2.1.2.2.2.2.2.2.1
  have e7 := k.2.2.1.2.1.2.2.2.2.2.2.2.1
  have e9 := k.2.2.1.2.1.2.2.2.2.2.2.2.2.2
  unfold fn_law_45
  simp only [s1, s2, s3, s4, s5, h.ck, obs]
  obtain ⟨M1, e1, x1, f1⟩ := x_saveSnapshot (N := N) h  (xs (q + 1))
  rw [e1, b2s]
  exact lq x1 f1 hM (wf_sv w (xs (q + 1))) ho (fun h1 => rf_saveSnapshot hN h1 k (xs (q + 1)))
theorem lc_46 (hN : 2 ^ 15 ≤ N) (hI : Inv M) (hq : q + 6 ≤ L) (hL : L ≤ 3072) : ∃ M', fn_law_46 N L xs M (nI q) 0 389 404 = some M' ∧ Inv M' := by
  obtain ⟨bf, κ, σ, U, sn, F, A, h, hM, k, w, ho⟩ := hI
  have ho' := ho
  have s1 : sc_ld L xs (nI q + 1) = some (xs (q + 1)) := sc_at (nI_add q 1) (by omega) hL
  have s2 : sc_ld L xs (nI q + 2) = some (xs (q + 2)) := sc_at (nI_add q 2) (by omega) hL
  have s3 : sc_ld L xs (nI q + 3) = some (xs (q + 3)) := sc_at (nI_add q 3) (by omega) hL
  have s4 : sc_ld L xs (nI q + 4) = some (xs (q + 4)) := sc_at (nI_add q 4) (by omega) hL
  have s5 : sc_ld L xs (nI q + 5) = some (xs (q + 5)) := sc_at (nI_add q 5) (by omega) hL
  have l3 := k.2.2.1.2.1.2.2.2.1
  have l5 := k.2.2.1.2.1.2.2.2.2.2.1
  have e6 := k.2.2.1.2.1.2.2.2.2.2.2.1
  have e7 := k.2.2.1.2.1.2.2.2.2.2.2.2.1
  have e9 := k.2.2.1.2.1.2.2.2.2.2.2.2.2.2
  unfold fn_law_46
  simp only [s1, s2, s3, s4, s5, h.ck, obs]
  obtain ⟨M1, e1, x1, f1⟩ := x_restoreSnapshot (N := N) h  (xs (q + 1))
  rw [e1, b2s]
  exact lq x1 f1 hM (wf_rs w (xs (q + 1))) ho (fun h1 => rf_restoreSnapshot hN h1 k (xs (q + 1)))
theorem lc_42 (hN : 2 ^ 15 ≤ N) (hI : Inv M) (hq : q + 6 ≤ L) (hL : L ≤ 3072) : ∃ M', fn_law_42 N L xs M (nI q) 0 389 404 = some M' ∧ Inv M' := by
  obtain ⟨bf, κ, σ, U, sn, F, A, h, hM, k, w, ho⟩ := hI
  have ho' := ho
  have s1 : sc_ld L xs (nI q + 1) = some (xs (q + 1)) := sc_at (nI_add q 1) (by omega) hL
  have s2 : sc_ld L xs (nI q + 2) = some (xs (q + 2)) := sc_at (nI_add q 2) (by omega) hL
  have s3 : sc_ld L xs (nI q + 3) = some (xs (q + 3)) := sc_at (nI_add q 3) (by omega) hL
  have s4 : sc_ld L xs (nI q + 4) = some (xs (q + 4)) := sc_at (nI_add q 4) (by omega) hL
  have s5 : sc_ld L xs (nI q + 5) = some (xs (q + 5)) := sc_at (nI_add q 5) (by omega) hL
  have l3 := k.2.2.1.2.1.2.2.2.1
  have l5 := k.2.2.1.2.1.2.2.2.2.2.1
  have e6 := k.2.2.1.2.1.2.2.2.2.2.2.1
  have e7 := k.2.2.1.2.1.2.2.2.2.2.2.2.1
  have e9 := k.2.2.1.2.1.2.2.2.2.2.2.2.2.2
  unfold fn_law_42
  simp only [s1, s2, s3, s4, s5, h.ck, obs]
  obtain ⟨o1, d1, M1, e1, x1, f1⟩ := x_dispense (N := N) h hN w.1 w.2.1 (xs (q + 1))
  rw [e1, b2s]
  refine lq x1 f1 hM (wf_ds w d1) ho (fun h1 => (rf_dispense hN h1 k w (xs (q + 1))).imp ?_)
  rintro r F' A' ⟨o2, d2, z1, z2⟩
  have e := DsR.uniq w.1 w.2.1 d2 d1
  rw [e] at z1 z2
  exact ⟨z1, z2⟩
theorem lc_0 (hN : 2 ^ 15 ≤ N) (hI : Inv M) (hq : q + 6 ≤ L) (hL : L ≤ 3072) : ∃ M', fn_law_0 N L xs M (nI q) 0 389 404 = some M' ∧ Inv M' := by
  obtain ⟨bf, κ, σ, U, sn, F, A, h, hM, k, w, ho⟩ := hI
  have ho' := ho
  have s1 : sc_ld L xs (nI q + 1) = some (xs (q + 1)) := sc_at (nI_add q 1) (by omega) hL
  have s2 : sc_ld L xs (nI q + 2) = some (xs (q + 2)) := sc_at (nI_add q 2) (by omega) hL
  have s3 : sc_ld L xs (nI q + 3) = some (xs (q + 3)) := sc_at (nI_add q 3) (by omega) hL
  have s4 : sc_ld L xs (nI q + 4) = some (xs (q + 4)) := sc_at (nI_add q 4) (by omega) hL
  have s5 : sc_ld L xs (nI q + 5) = some (xs (q + 5)) := sc_at (nI_add q 5) (by omega) hL
  have l3 := k.2.2.1.2.1.2.2.2.1
  have l5 := k.2.2.1.2.1.2.2.2.2.2.1
  have e6 := k.2.2.1.2.1.2.2.2.2.2.2.1
  have e7 := k.2.2.1.2.1.2.2.2.2.2.2.2.1
  have e9 := k.2.2.1.2.1.2.2.2.2.2.2.2.2.2
  unfold fn_law_0
  simp only [s1, s2, s3, s4, s5, h.ck, obs]
  obtain ⟨M1, e1, x1, f1⟩ := x_append (N := N) hN h (xs (q + 1)) (xs (q + 2)) (xs (q + 3)) (xs (q + 4)) (xs (q + 5))
  rw [e1, b2s]
  exact lq x1 f1 hM w ho (fun h1 => rf_append hN h1 k (xs (q + 1)) (xs (q + 2)) (xs (q + 3)) (xs (q + 4)) (xs (q + 5)))
theorem lc_1 (hN : 2 ^ 15 ≤ N) (hI : Inv M) (hq : q + 6 ≤ L) (hL : L ≤ 3072) : ∃ M', fn_law_1 N L xs M (nI q) 0 389 404 = some M' ∧ Inv M' := by
  obtain ⟨bf, κ, σ, U, sn, F, A, h, hM, k, w, ho⟩ := hI
  have ho' := ho
  have s1 : sc_ld L xs (nI q + 1) = some (xs (q + 1)) := sc_at (nI_add q 1) (by omega) hL
  have s2 : sc_ld L xs (nI q + 2) = some (xs (q + 2)) := sc_at (nI_add q 2) (by omega) hL
  have s3 : sc_ld L xs (nI q + 3) = some (xs (q + 3)) := sc_at (nI_add q 3) (by omega) hL
  have s4 : sc_ld L xs (nI q + 4) = some (xs (q + 4)) := sc_at (nI_add q 4) (by omega) hL
  have s5 : sc_ld L xs (nI q + 5) = some (xs (q + 5)) := sc_at (nI_add q 5) (by omega) hL
  have l3 := k.2.2.1.2.1.2.2.2.1
  have l5 := k.2.2.1.2.1.2.2.2.2.2.1
  have e6 := k.2.2.1.2.1.2.2.2.2.2.2.1
  have e7 := k.2.2.1.2.1.2.2.2.2.2.2.2.1
  have e9 := k.2.2.1.2.1.2.2.2.2.2.2.2.2.2
  unfold fn_law_1
  simp only [s1, s2, s3, s4, s5, h.ck, obs]
  obtain ⟨M1, e1, x1, f1⟩ := x_parse (N := N) hN h (xs (q + 1))
  rw [e1, b2s]
  have h1 := hM.keep f1 (by omega)
  have hp := rf_parse (N := N) hN h1 k w (xs (q + 1))
  have hk : (psI bf (xs (q + 1)).toNatClampNeg).1.1 = 0 → 0 ≤ xs (q + 1) ∧ xs (q + 1) ≤ nI bf.length → WFK (psI bf (xs (q + 1)).toNatClampNeg).2 := by
    obtain ⟨r, M2, F', A', e2, h2, f2, z1, z2, z3⟩ := hp
    exact z3
  exact lq x1 f1 hM (wf_pa w k.1.2.1 (xs (q + 1)) hk) ho (fun _ => hp.imp (fun r F' A' z => ⟨z.1, z.2.1⟩))
theorem lc_8 (hN : 2 ^ 15 ≤ N) (hI : Inv M) (hq : q + 6 ≤ L) (hL : L ≤ 3072) : ∃ M', fn_law_8 N L xs M (nI q) 0 389 404 = some M' ∧ Inv M' := by
  obtain ⟨bf, κ, σ, U, sn, F, A, h, hM, k, w, ho⟩ := hI
  have ho' := ho
  have s1 : sc_ld L xs (nI q + 1) = some (xs (q + 1)) := sc_at (nI_add q 1) (by omega) hL
  have s2 : sc_ld L xs (nI q + 2) = some (xs (q + 2)) := sc_at (nI_add q 2) (by omega) hL
  have s3 : sc_ld L xs (nI q + 3) = some (xs (q + 3)) := sc_at (nI_add q 3) (by omega) hL
  have s4 : sc_ld L xs (nI q + 4) = some (xs (q + 4)) := sc_at (nI_add q 4) (by omega) hL
  have s5 : sc_ld L xs (nI q + 5) = some (xs (q + 5)) := sc_at (nI_add q 5) (by omega) hL
  have l3 := k.2.2.1.2.1.2.2.2.1
  have l5 := k.2.2.1.2.1.2.2.2.2.2.1
  have e6 := k.2.2.1.2.1.2.2.2.2.2.2.1
  have e7 := k.2.2.1.2.1.2.2.2.2.2.2.2.1
  have e9 := k.2.2.1.2.1.2.2.2.2.2.2.2.2.2
  unfold fn_law_8
  simp only [s1, s2, s3, s4, s5, h.ck, obs]
  obtain ⟨g, hg⟩ := ho
  unfold fn_L_score
  rw [h.ck, obs]
  by_cases c1 : hasI (κ.2 0).length (xs (q + 1)) = true
  · by_cases c2 : meI (xs (q + 2)) (xs (q + 3)) = true
    · have a0 := ev_sL (j := 0) (x := (if scI κ 0 (xs (q + 1)) (xs (q + 2) + σ.1 0) (xs (q + 3) + σ.1 1) = 1000000 then -2 else scI κ 0 (xs (q + 1)) (xs (q + 2) + σ.1 0) (xs (q + 3) + σ.1 1)).toInt64) hg (by decide) (by decide)
      rw [nI_0] at a0
      rw [x_score h _ _ _ c1 c2]
      dsimp only
      rw [a0, obs, b2s]
      have f1 : Fr M (M.set 404 (.inl (1, 1, .inr (.inl (vp_updL g 0 (if scI κ 0 (xs (q + 1)) (xs (q + 2) + σ.1 0) (xs (q + 3) + σ.1 1) = 1000000 then -2 else scI κ 0 (xs (q + 1)) (xs (q + 2) + σ.1 0) (xs (q + 3) + σ.1 1)).toInt64))))) 404 405 := Fr.set (by omega) (by omega)
      refine lth (h.keep f1 (by omega)) (hM.keep f1 (by omega)) w (st_self hg) (fun _ => pk_uLs) ((rf_score (hM.keep f1 (by omega)) k w (xs (q + 1)) (xs (q + 2)) (xs (q + 3))).imp ?_)
      rintro r F' A' ⟨z1, z2⟩
      rw [if_pos c1, if_pos c2] at z2
      exact ⟨z2.1, fun _ => z2.2, k.qc z1⟩
    · obtain ⟨n1, n2⟩ := (x_scoreN (N := N) h (xs (q + 1)) (xs (q + 2)) (xs (q + 3))).2 c1 (by simpa using c2)
      rw [n1, n2]
      dsimp only
      rw [if_neg (by decide), if_pos rfl, b2s]
      refine lth (v := 0) h hM w hg (fun z => absurd z (by decide)) ((rf_score hM k w (xs (q + 1)) (xs (q + 2)) (xs (q + 3))).imp ?_)
      rintro r F' A' ⟨z1, z2⟩
      rw [if_pos c1, if_neg c2] at z2
      exact ⟨z2, fun z => absurd z (by decide), k.qc z1⟩
  · obtain ⟨n1, n2⟩ := (x_scoreN (N := N) h (xs (q + 1)) (xs (q + 2)) (xs (q + 3))).1 (by simpa using c1)
    rw [n1, n2]
    dsimp only
    rw [if_pos rfl, b2s]
    refine lth (v := 0) h hM w hg (fun z => absurd z (by decide)) ((rf_score hM k w (xs (q + 1)) (xs (q + 2)) (xs (q + 3))).imp ?_)
    rintro r F' A' ⟨z1, z2⟩
    rw [if_neg c1] at z2
    exact ⟨z2, fun z => absurd z (by decide), k.qc z1⟩
theorem lc_9 (hN : 2 ^ 15 ≤ N) (hI : Inv M) (hq : q + 6 ≤ L) (hL : L ≤ 3072) : ∃ M', fn_law_9 N L xs M (nI q) 0 389 404 = some M' ∧ Inv M' := by
  obtain ⟨bf, κ, σ, U, sn, F, A, h, hM, k, w, ho⟩ := hI
  have ho' := ho
  have s1 : sc_ld L xs (nI q + 1) = some (xs (q + 1)) := sc_at (nI_add q 1) (by omega) hL
  have s2 : sc_ld L xs (nI q + 2) = some (xs (q + 2)) := sc_at (nI_add q 2) (by omega) hL
  have s3 : sc_ld L xs (nI q + 3) = some (xs (q + 3)) := sc_at (nI_add q 3) (by omega) hL
  have s4 : sc_ld L xs (nI q + 4) = some (xs (q + 4)) := sc_at (nI_add q 4) (by omega) hL
  have s5 : sc_ld L xs (nI q + 5) = some (xs (q + 5)) := sc_at (nI_add q 5) (by omega) hL
  have l3 := k.2.2.1.2.1.2.2.2.1
  have l5 := k.2.2.1.2.1.2.2.2.2.2.1
  have e6 := k.2.2.1.2.1.2.2.2.2.2.2.1
  have e7 := k.2.2.1.2.1.2.2.2.2.2.2.2.1
  have e9 := k.2.2.1.2.1.2.2.2.2.2.2.2.2.2
  unfold fn_law_9
  simp only [s1, s2, s3, s4, s5, h.ck, obs]
  obtain ⟨g, hg⟩ := ho
  unfold fn_L_classify
  rw [h.ck, obs]
  by_cases c2 : meI (xs (q + 1)) (xs (q + 2)) = true
  · obtain ⟨M1, e1, x1, f1⟩ := x_classify (N := N) h hN (xs (q + 1)) (xs (q + 2)) c2
    have g1 : M1[404]? = some (.inl (1, 1, .inr (.inl g))) := by rw [f1.2 404 (by omega)]; exact hg
    have hM1 := hM.keep f1 (by omega)
    have a0 := ev_sL (j := 0) (x := (vdI κ (xs (q + 1) + σ.1 0) (xs (q + 2) + σ.1 1) (σ.1 2)).toInt64) g1 (by decide) (by decide)
    rw [nI_0] at a0
    rw [e1]
    dsimp only
    rw [a0, obs, b2s]
    have f2 : Fr M1 (M1.set 404 (.inl (1, 1, .inr (.inl (vp_updL g 0 (vdI κ (xs (q + 1) + σ.1 0) (xs (q + 2) + σ.1 1) (σ.1 2)).toInt64))))) 404 405 := Fr.set (by omega) (by omega)
    refine lth (x1.keep f2 (by omega)) (hM1.keep f2 (by omega)) w (st_self g1) (fun _ => pk_uLs) ((rf_classify hN (hM1.keep f2 (by omega)) k w (xs (q + 1)) (xs (q + 2))).imp ?_)
    rintro r F' A' ⟨z1, z2⟩
    rw [if_pos c2] at z2
    exact ⟨z2.1, fun _ => z2.2, k.qc z1⟩
  · obtain ⟨n1, n2⟩ := x_classifyN (N := N) (M := M) (xs (q + 1)) (xs (q + 2)) (by simpa using c2)
    rw [n1, n2]
    dsimp only
    rw [if_pos rfl, b2s]
    refine lth (v := 0) h hM w hg (fun z => absurd z (by decide)) ((rf_classify hN hM k w (xs (q + 1)) (xs (q + 2))).imp ?_)
    rintro r F' A' ⟨z1, z2⟩
    rw [if_neg c2] at z2
    exact ⟨z2, fun z => absurd z (by decide), k.qc z1⟩
theorem lc_41 (hN : 2 ^ 15 ≤ N) (hI : Inv M) (hq : q + 6 ≤ L) (hL : L ≤ 3072) : ∃ M', fn_law_41 N L xs M (nI q) 0 389 404 = some M' ∧ Inv M' := by
  obtain ⟨bf, κ, σ, U, sn, F, A, h, hM, k, w, ho⟩ := hI
  have ho' := ho
  have s1 : sc_ld L xs (nI q + 1) = some (xs (q + 1)) := sc_at (nI_add q 1) (by omega) hL
  have s2 : sc_ld L xs (nI q + 2) = some (xs (q + 2)) := sc_at (nI_add q 2) (by omega) hL
  have s3 : sc_ld L xs (nI q + 3) = some (xs (q + 3)) := sc_at (nI_add q 3) (by omega) hL
  have s4 : sc_ld L xs (nI q + 4) = some (xs (q + 4)) := sc_at (nI_add q 4) (by omega) hL
  have s5 : sc_ld L xs (nI q + 5) = some (xs (q + 5)) := sc_at (nI_add q 5) (by omega) hL
  have l3 := k.2.2.1.2.1.2.2.2.1
  have l5 := k.2.2.1.2.1.2.2.2.2.2.1
  have e6 := k.2.2.1.2.1.2.2.2.2.2.2.1
  have e7 := k.2.2.1.2.1.2.2.2.2.2.2.2.1
  have e9 := k.2.2.1.2.1.2.2.2.2.2.2.2.2.2
  unfold fn_law_41
  simp only [s1, s2, s3, s4, s5, h.ck, obs]
  obtain ⟨g, hg⟩ := ho
  unfold fn_L_audit
  rw [h.ck, obs]
  have wf := wf_ad w e7 l5 (xs (q + 1)) (xs (q + 2))
  by_cases c0 : (adI σ U (xs (q + 1)) (xs (q + 2))).1 = 0
  · obtain ⟨M1, e1, x1, f1⟩ := x_audit0 (N := N) h e6 e7 (xs (q + 1)) (xs (q + 2)) c0
    have g1 : M1[404]? = some (.inl (1, 1, .inr (.inl g))) := by rw [f1.2 404 (by omega)]; exact hg
    have hM1 := hM.keep f1 (by omega)
    have a0 := ev_sL (j := 0) (x := ((adI σ U (xs (q + 1)) (xs (q + 2))).2.1).toInt64) g1 (by decide) (by decide)
    rw [nI_0] at a0
    rw [e1]
    dsimp only
    rw [a0, obs, b2s]
    have f2 : Fr M1 (M1.set 404 (.inl (1, 1, .inr (.inl (vp_updL g 0 ((adI σ U (xs (q + 1)) (xs (q + 2))).2.1).toInt64))))) 404 405 := Fr.set (by omega) (by omega)
    refine lth (v := (adI σ U (xs (q + 1)) (xs (q + 2))).2.1) (x1.keep f2 (by omega)) (hM1.keep f2 (by omega)) wf (st_self g1) (fun _ => pk_uLs) ((rf_audit hN (hM1.keep f2 (by omega)) k w (xs (q + 1)) (xs (q + 2))).imp ?_)
    rintro r F' A' ⟨z1, z2, z3⟩
    exact ⟨z1.trans c0, fun _ => z2 c0, z3⟩
  · obtain ⟨n1, n2, n3⟩ := x_auditN (N := N) h (xs (q + 1)) (xs (q + 2)) c0
    rw [n1, n2]
    dsimp only
    have hr := rf_audit (N := N) hN hM k w (xs (q + 1)) (xs (q + 2))
    have xx : XAt M bf κ (adI σ U (xs (q + 1)) (xs (q + 2))).2.2.1 (adI σ U (xs (q + 1)) (xs (q + 2))).2.2.2 sn := by rw [n3]; exact h
    have key : ∀ t : Int32, (adI σ U (xs (q + 1)) (xs (q + 2))).1 = t → ¬ t = 0 → RW M (fn_X10_audit N M 389 (xs (q + 1)) (xs (q + 2))) (fun r F' A' => F' 0 = t ∧ (t = 0 → r = 0) ∧ Rel F' A' bf κ (adI σ U (xs (q + 1)) (xs (q + 2))).2.2.1 (adI σ U (xs (q + 1)) (xs (q + 2))).2.2.2 sn) := by
      intro t ht h0
      refine hr.imp ?_
      rintro r F' A' ⟨z1, z2, z3⟩
      exact ⟨z1.trans ht, fun z => absurd z h0, z3⟩
    rcases ad_t (σ := σ) (U := U) (xs (q + 1)) (xs (q + 2)) with c | c | c | c
    · exact absurd c c0
    · rw [c, if_pos rfl, b2s]
      exact lth (v := 0) xx hM wf hg (fun z => absurd z (by decide)) (key 1 c (by decide))
    · rw [c, if_neg (by decide), if_pos rfl, b2s]
      exact lth (v := 0) xx hM wf hg (fun z => absurd z (by decide)) (key 2 c (by decide))
    · rw [c, if_neg (by decide), if_neg (by decide), if_pos rfl, b2s]
      exact lth (v := 0) xx hM wf hg (fun z => absurd z (by decide)) (key 3 c (by decide))
end LC
