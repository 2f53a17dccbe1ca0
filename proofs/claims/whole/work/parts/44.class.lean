/-! PURE: Config; the whole class -/
def CfAt (M : Mem) (c : Nat) (κ : Cf) : Prop := M[c]? = some (.inr (0, [.ref (c + 1), .ref (c + 12), .ref (c + 23), .ref (c + 25), .int (κ.1 0), .int (κ.1 1), .int (κ.1 2)])) ∧ M[c + 1]? = some (.inr (3, [.ref (c + 2), .ref (c + 4), .ref (c + 6), .ref (c + 8), .ref (c + 10)])) ∧ M[c + 12]? = some (.inr (3, [.ref (c + 13), .ref (c + 15), .ref (c + 17), .ref (c + 19), .ref (c + 21)])) ∧
  RowAt M (c + 2) 8 (κ.2 0) ∧ RowAt M (c + 4) 8 (κ.2 1) ∧ RowAt M (c + 6) 8 (κ.2 2) ∧ RowAt M (c + 8) 8 (κ.2 3) ∧ RowAt M (c + 10) 8 (κ.2 4) ∧ RowAt M (c + 13) 4 (κ.2 5) ∧ RowAt M (c + 15) 4 (κ.2 6) ∧ RowAt M (c + 17) 4 (κ.2 7) ∧ RowAt M (c + 19) 4 (κ.2 8) ∧ RowAt M (c + 21) 4 (κ.2 9) ∧ RowAt M (c + 23) 8 (κ.2 10) ∧ RowAt M (c + 25) 8 (κ.2 11)
theorem CfAt.r0 {M : Mem} {c : Nat} {κ : Cf} (h : CfAt M c κ) : RowAt M (c + 2) 8 (κ.2 0) := h.2.2.2.1
theorem CfAt.r1 {M : Mem} {c : Nat} {κ : Cf} (h : CfAt M c κ) : RowAt M (c + 4) 8 (κ.2 1) := h.2.2.2.2.1
theorem CfAt.r2 {M : Mem} {c : Nat} {κ : Cf} (h : CfAt M c κ) : RowAt M (c + 6) 8 (κ.2 2) := h.2.2.2.2.2.1
theorem CfAt.r3 {M : Mem} {c : Nat} {κ : Cf} (h : CfAt M c κ) : RowAt M (c + 8) 8 (κ.2 3) := h.2.2.2.2.2.2.1
theorem CfAt.r4 {M : Mem} {c : Nat} {κ : Cf} (h : CfAt M c κ) : RowAt M (c + 10) 8 (κ.2 4) := h.2.2.2.2.2.2.2.1
theorem CfAt.r5 {M : Mem} {c : Nat} {κ : Cf} (h : CfAt M c κ) : RowAt M (c + 13) 4 (κ.2 5) := h.2.2.2.2.2.2.2.2.1
theorem CfAt.r6 {M : Mem} {c : Nat} {κ : Cf} (h : CfAt M c κ) : RowAt M (c + 15) 4 (κ.2 6) := h.2.2.2.2.2.2.2.2.2.1
theorem CfAt.r7 {M : Mem} {c : Nat} {κ : Cf} (h : CfAt M c κ) : RowAt M (c + 17) 4 (κ.2 7) := h.2.2.2.2.2.2.2.2.2.2.1
theorem CfAt.r8 {M : Mem} {c : Nat} {κ : Cf} (h : CfAt M c κ) : RowAt M (c + 19) 4 (κ.2 8) := h.2.2.2.2.2.2.2.2.2.2.2.1
theorem CfAt.r9 {M : Mem} {c : Nat} {κ : Cf} (h : CfAt M c κ) : RowAt M (c + 21) 4 (κ.2 9) := h.2.2.2.2.2.2.2.2.2.2.2.2.1
theorem CfAt.r10 {M : Mem} {c : Nat} {κ : Cf} (h : CfAt M c κ) : RowAt M (c + 23) 8 (κ.2 10) := h.2.2.2.2.2.2.2.2.2.2.2.2.2.1
theorem CfAt.r11 {M : Mem} {c : Nat} {κ : Cf} (h : CfAt M c κ) : RowAt M (c + 25) 8 (κ.2 11) := h.2.2.2.2.2.2.2.2.2.2.2.2.2.2
theorem CfAt.keep {M M' : Mem} {c lo hi : Nat} {κ : Cf} (h : CfAt M c κ) (hf : Fr M M' lo hi) (hd : c + 27 ≤ lo ∨ hi ≤ c) : CfAt M' c κ :=
  ⟨by rw [hf.2 c (by omega)]; exact h.1, by rw [hf.2 (c + 1) (by omega)]; exact h.2.1, by rw [hf.2 (c + 12) (by omega)]; exact h.2.2.1, h.r0.keep hf (by omega), h.r1.keep hf (by omega), h.r2.keep hf (by omega), h.r3.keep hf (by omega), h.r4.keep hf (by omega), h.r5.keep hf (by omega), h.r6.keep hf (by omega), h.r7.keep hf (by omega), h.r8.keep hf (by omega), h.r9.keep hf (by omega), h.r10.keep hf (by omega), h.r11.keep hf (by omega)⟩
theorem CfAt.ty {M : Mem} {c : Nat} {κ : Cf} (h : CfAt M c κ) : mm_gR M c 0 0 = some (c + 1) := ev_gR h.1 rfl
theorem CfAt.fk {M : Mem} {c : Nat} {κ : Cf} (h : CfAt M c κ) : mm_gR M c 0 1 = some (c + 12) := ev_gR h.1 rfl
theorem CfAt.bt {M : Mem} {c : Nat} {κ : Cf} (h : CfAt M c κ) : mm_gR M c 0 2 = some (c + 23) := ev_gR h.1 rfl
theorem CfAt.bs {M : Mem} {c : Nat} {κ : Cf} (h : CfAt M c κ) : mm_gR M c 0 3 = some (c + 25) := ev_gR h.1 rfl
theorem CfAt.i0 {M : Mem} {c : Nat} {κ : Cf} (h : CfAt M c κ) : mm_gI M c 0 4 = some (κ.1 0) := ev_gI h.1 rfl
theorem CfAt.i1 {M : Mem} {c : Nat} {κ : Cf} (h : CfAt M c κ) : mm_gI M c 0 5 = some (κ.1 1) := ev_gI h.1 rfl
theorem CfAt.i2 {M : Mem} {c : Nat} {κ : Cf} (h : CfAt M c κ) : mm_gI M c 0 6 = some (κ.1 2) := ev_gI h.1 rfl
theorem CfAt.ct {M : Mem} {c : Nat} {κ : Cf} (h : CfAt M c κ) : mm_ck M (c + 1) 3 = some () := ev_ck h.2.1
theorem CfAt.cf {M : Mem} {c : Nat} {κ : Cf} (h : CfAt M c κ) : mm_ck M (c + 12) 3 = some () := ev_ck h.2.2.1
theorem CfAt.t0 {M : Mem} {c : Nat} {κ : Cf} (h : CfAt M c κ) : mm_gR M (c + 1) 3 0 = some (c + 2) := ev_gR h.2.1 rfl
theorem CfAt.f0 {M : Mem} {c : Nat} {κ : Cf} (h : CfAt M c κ) : mm_gR M (c + 12) 3 0 = some (c + 13) := ev_gR h.2.2.1 rfl
theorem CfAt.t1 {M : Mem} {c : Nat} {κ : Cf} (h : CfAt M c κ) : mm_gR M (c + 1) 3 1 = some (c + 4) := ev_gR h.2.1 rfl
theorem CfAt.f1 {M : Mem} {c : Nat} {κ : Cf} (h : CfAt M c κ) : mm_gR M (c + 12) 3 1 = some (c + 15) := ev_gR h.2.2.1 rfl
theorem CfAt.t2 {M : Mem} {c : Nat} {κ : Cf} (h : CfAt M c κ) : mm_gR M (c + 1) 3 2 = some (c + 6) := ev_gR h.2.1 rfl
theorem CfAt.f2 {M : Mem} {c : Nat} {κ : Cf} (h : CfAt M c κ) : mm_gR M (c + 12) 3 2 = some (c + 17) := ev_gR h.2.2.1 rfl
theorem CfAt.t3 {M : Mem} {c : Nat} {κ : Cf} (h : CfAt M c κ) : mm_gR M (c + 1) 3 3 = some (c + 8) := ev_gR h.2.1 rfl
theorem CfAt.f3 {M : Mem} {c : Nat} {κ : Cf} (h : CfAt M c κ) : mm_gR M (c + 12) 3 3 = some (c + 19) := ev_gR h.2.2.1 rfl
theorem CfAt.t4 {M : Mem} {c : Nat} {κ : Cf} (h : CfAt M c κ) : mm_gR M (c + 1) 3 4 = some (c + 10) := ev_gR h.2.1 rfl
theorem CfAt.f4 {M : Mem} {c : Nat} {κ : Cf} (h : CfAt M c κ) : mm_gR M (c + 12) 3 4 = some (c + 21) := ev_gR h.2.2.1 rfl
/-- what is only used within a call: the parser's fields, the verdict, the payout's and the tuning's rows -/
def ScAt (M : Mem) : Prop := (∃ tx n1 n2 n3 n4 n5 b1 b2 b3, M[2]? = some (.inr (4, [tx, .int n1, .int n2, .int n3, .int n4, .int n5, .int b1, .int b2, .int b3]))) ∧ (∃ n1 n2, M[377]? = some (.inr (2, [.int n1, .int n2]))) ∧ (∃ wh, M[378]? = some (.inr (5, [.ref 379, .ref 380, .ref 381, .long wh, .ref 382]))) ∧ (∃ f, M[379]? = some (.inl (0, 8, .inl f))) ∧ (∃ f, M[380]? = some (.inl (1, 8, .inr (.inl f)))) ∧ (∃ f, M[381]? = some (.inl (1, 5001, .inr (.inl f)))) ∧ (∃ l, RowAt M 382 8 l) ∧ M[384]? = some (.inr (8, [.ref 385, .ref 387])) ∧ (∃ l, RowAt M 385 40 l) ∧ ∃ l, RowAt M 387 40 l
def SlAt (M : Mem) (sn : Nat → Option St) : Prop := ∃ (f : Nat → Option Nat) (v : Nat → Int32), M[333]? = some (.inl (4, 2, .inr (.inr (.inr (.inr f))))) ∧ f 0 = some 334 ∧ f 1 = some 355 ∧ M[376]? = some (.inl (3, 2, .inl v)) ∧ (∃ t, StAt M 334 t ∧ ((v 0 = 0 ∧ sn 0 = none) ∨ (v 0 = 1 ∧ sn 0 = some t))) ∧ ∃ t, StAt M 355 t ∧ ((v 1 = 0 ∧ sn 1 = none) ∨ (v 1 = 1 ∧ sn 1 = some t))
def BfAt (M : Mem) (bf : List Int32) : Prop := ∃ g, M[1]? = some (.inl (2, 800, .inl g)) ∧ bf.length ≤ 800 ∧ ∀ i, i < bf.length → g i = bf.getD i 0
/-- the class's cells 0 .. 388 hold this: buffer, configuration, state, undo list, snapshots -/
def XAt (M : Mem) (bf : List Int32) (κ : Cf) (σ : St) (U : List St) (sn : Nat → Option St) : Prop := ∃ (cf sp : Nat) (κ' : Cf), M[0]? = some (.inr (9, [.ref 1, .int (nI bf.length), .ref 2, .ref cf, .ref sp, .ref 58, .ref 79, .ref 333, .ref 376, .ref 377, .ref 378, .ref 384])) ∧ ((cf = 4 ∧ sp = 31) ∨ (cf = 31 ∧ sp = 4)) ∧ BfAt M bf ∧ CfAt M cf κ ∧ CfAt M sp κ' ∧ StAt M 58 σ ∧ HiAt M U ∧ SlAt M sn ∧ ScAt M
theorem BfAt.keep {M M' : Mem} {lo hi : Nat} {bf : List Int32} (h : BfAt M bf) (hf : Fr M M' lo hi) (hd : 2 ≤ lo ∨ hi ≤ 1) : BfAt M' bf := by
  obtain ⟨g, h1, h2⟩ := h
  exact ⟨g, by rw [hf.2 1 (by omega)]; exact h1, h2⟩
theorem SlAt.keep {M M' : Mem} {lo hi : Nat} {sn : Nat → Option St} (h : SlAt M sn) (hf : Fr M M' lo hi) (hd : 377 ≤ lo ∨ hi ≤ 333) : SlAt M' sn := by
  obtain ⟨f, v, h1, h2, h3, h4, ⟨t, h5, h6⟩, ⟨u, h7, h8⟩⟩ := h
  exact ⟨f, v, by rw [hf.2 333 (by omega)]; exact h1, h2, h3, by rw [hf.2 376 (by omega)]; exact h4, ⟨t, h5.keep hf (by omega), h6⟩, ⟨u, h7.keep hf (by omega), h8⟩⟩
theorem ScAt.keep {M M' : Mem} {lo hi : Nat} (h : ScAt M) (hf : Fr M M' lo hi) (hd : (3 ≤ lo ∧ hi ≤ 377) ∨ 389 ≤ lo ∨ hi ≤ 2) : ScAt M' := by
  obtain ⟨h1, h2, h3, h4, h5, h6, ⟨l, h7⟩, h8, ⟨l2, h9⟩, ⟨l3, h10⟩⟩ := h
  exact ⟨by rw [hf.2 2 (by omega)]; exact h1, by rw [hf.2 377 (by omega)]; exact h2, by rw [hf.2 378 (by omega)]; exact h3, by rw [hf.2 379 (by omega)]; exact h4, by rw [hf.2 380 (by omega)]; exact h5, by rw [hf.2 381 (by omega)]; exact h6, ⟨l, h7.keep hf (by omega)⟩, by rw [hf.2 384 (by omega)]; exact h8, ⟨l2, h9.keep hf (by omega)⟩, ⟨l3, h10.keep hf (by omega)⟩⟩
section XA
variable {M M' : Mem} {bf : List Int32} {κ : Cf} {σ : St} {U : List St} {sn : Nat → Option St}
theorem XAt.keep {lo hi : Nat} (h : XAt M bf κ σ U sn) (hf : Fr M M' lo hi) (hd : 389 ≤ lo) : XAt M' bf κ σ U sn := by
  obtain ⟨cf, sp, κ', h1, h2, h3, h4, h5, h6, h7, h8, h9⟩ := h
  exact ⟨cf, sp, κ', by rw [hf.2 0 (by omega)]; exact h1, h2, h3.keep hf (by omega), h4.keep hf (by omega), h5.keep hf (by omega), h6.keep hf (by omega), h7.keep hf (by omega), h8.keep hf (by omega), h9.keep hf (by omega)⟩
theorem XAt.ck (h : XAt M bf κ σ U sn) : mm_ck M 0 9 = some () := by
  obtain ⟨cf, sp, κ', h1, h2⟩ := h
  exact ev_ck h1
theorem XAt.st (h : XAt M bf κ σ U sn) : mm_gR M 0 9 5 = some 58 ∧ StAt M 58 σ := by
  obtain ⟨cf, sp, κ', h1, h2, h3, h4, h5, h6, h7⟩ := h
  exact ⟨ev_gR h1 rfl, h6⟩
theorem XAt.cfg (h : XAt M bf κ σ U sn) : ∃ cf, mm_gR M 0 9 3 = some cf ∧ CfAt M cf κ ∧ (cf = 4 ∨ cf = 31) := by
  obtain ⟨cf, sp, κ', h1, h2, h3, h4, h5, h6, h7⟩ := h
  exact ⟨cf, ev_gR h1 rfl, h4, h2.imp And.left And.left⟩
theorem XAt.hi (h : XAt M bf κ σ U sn) : mm_gR M 0 9 6 = some 79 ∧ HiAt M U := by
  obtain ⟨cf, sp, κ', h1, h2, h3, h4, h5, h6, h7, h8⟩ := h
  exact ⟨ev_gR h1 rfl, h7⟩
theorem XAt.sc (h : XAt M bf κ σ U sn) : ScAt M := by
  obtain ⟨cf, sp, κ', h1, h2, h3, h4, h5, h6, h7, h8, h9⟩ := h
  exact h9
theorem XAt.jd (h : XAt M bf κ σ U sn) : mm_gR M 0 9 9 = some 377 := by
  obtain ⟨cf, sp, κ', h1, h2⟩ := h
  exact ev_gR h1 rfl
theorem XAt.py (h : XAt M bf κ σ U sn) : mm_gR M 0 9 10 = some 378 := by
  obtain ⟨cf, sp, κ', h1, h2⟩ := h
  exact ev_gR h1 rfl
theorem XAt.tu (h : XAt M bf κ σ U sn) : mm_gR M 0 9 11 = some 384 := by
  obtain ⟨cf, sp, κ', h1, h2⟩ := h
  exact ev_gR h1 rfl
/-- another state, the rest as it was -/
theorem XAt.setSt {σ' : St} (h : XAt M bf κ σ U sn) (hs : StAt M' 58 σ') (hf : Fr M M' 58 79) : XAt M' bf κ σ' U sn := by
  obtain ⟨cf, sp, κ', h1, h2, h3, h4, h5, h6, h7, h8, h9⟩ := h
  exact ⟨cf, sp, κ', by rw [hf.2 0 (by omega)]; exact h1, h2, h3.keep hf (by omega), h4.keep hf (by omega), h5.keep hf (by omega), hs, h7.keep hf (by omega), h8.keep hf (by omega), h9.keep hf (by omega)⟩
theorem XAt.setHi {U' : List St} (h : XAt M bf κ σ U sn) (hs : HiAt M' U') (hf : Fr M M' 79 333) : XAt M' bf κ σ U' sn := by
  obtain ⟨cf, sp, κ', h1, h2, h3, h4, h5, h6, h7, h8, h9⟩ := h
  exact ⟨cf, sp, κ', by rw [hf.2 0 (by omega)]; exact h1, h2, h3.keep hf (by omega), h4.keep hf (by omega), h5.keep hf (by omega), h6.keep hf (by omega), hs, h8.keep hf (by omega), h9.keep hf (by omega)⟩
/-- only what is used within a call has changed -/
theorem XAt.setSc (h : XAt M bf κ σ U sn) (hs : ScAt M') (hf : Fr M M' 377 389) : XAt M' bf κ σ U sn := by
  obtain ⟨cf, sp, κ', h1, h2, h3, h4, h5, h6, h7, h8, h9⟩ := h
  exact ⟨cf, sp, κ', by rw [hf.2 0 (by omega)]; exact h1, h2, h3.keep hf (by omega), h4.keep hf (by omega), h5.keep hf (by omega), h6.keep hf (by omega), h7.keep hf (by omega), h8.keep hf (by omega), hs⟩
end XA
section XG
variable {N : Nat} {M M' : Mem} {bf : List Int32} {κ : Cf} {σ : St} {U : List St} {sn : Nat → Option St}
theorem x_typeCount (h : XAt M bf κ σ U sn) : fn_X9_typeCount N M 0 = some (nI (κ.2 0).length, M) := by
  obtain ⟨cf, c1, hC, c2⟩ := h.cfg
  obtain ⟨s1, hS⟩ := h.st
  unfold fn_X9_typeCount
  simp only [c1, hC.ty, hC.ct, fn_X3_count, hC.t0, row_size hC.r0, mm_b2, Option.bind_some]
theorem x_fakeCount (h : XAt M bf κ σ U sn) : fn_X9_fakeCount N M 0 = some (nI (κ.2 5).length, M) := by
  obtain ⟨cf, c1, hC, c2⟩ := h.cfg
  obtain ⟨s1, hS⟩ := h.st
  unfold fn_X9_fakeCount
  simp only [c1, hC.fk, hC.cf, fn_X3_count, hC.f0, row_size hC.r5, mm_b2, Option.bind_some]
theorem x_binCount (h : XAt M bf κ σ U sn) : fn_X9_binCount N M 0 = some (nI (κ.2 10).length, M) := by
  obtain ⟨cf, c1, hC, c2⟩ := h.cfg
  obtain ⟨s1, hS⟩ := h.st
  unfold fn_X9_binCount
  simp only [c1, hC.bt, row_size hC.r10, mm_b2, Option.bind_some]
theorem x_typeValue (h : XAt M bf κ σ U sn) (x1 : Int32) : fn_X9_typeValue N M 0 x1 = some (atI (κ.2 0) x1, M) := by
  obtain ⟨cf, c1, hC, c2⟩ := h.cfg
  obtain ⟨s1, hS⟩ := h.st
  unfold fn_X9_typeValue
  simp only [c1, hC.ty, hC.t0, row_ck hC.r0, row_at hC.r0, mm_b2, Option.bind_some]
theorem x_binType (h : XAt M bf κ σ U sn) (x1 : Int32) : fn_X9_binType N M 0 x1 = some (atI (κ.2 10) x1, M) := by
  obtain ⟨cf, c1, hC, c2⟩ := h.cfg
  obtain ⟨s1, hS⟩ := h.st
  unfold fn_X9_binType
  simp only [c1, hC.bt, row_ck hC.r10, row_at hC.r10, mm_b2, Option.bind_some]
theorem x_bagSize (h : XAt M bf κ σ U sn) (x1 : Int32) : fn_X9_bagSize N M 0 x1 = some (atI (κ.2 11) x1, M) := by
  obtain ⟨cf, c1, hC, c2⟩ := h.cfg
  obtain ⟨s1, hS⟩ := h.st
  unfold fn_X9_bagSize
  simp only [c1, hC.bs, row_ck hC.r11, row_at hC.r11, mm_b2, Option.bind_some]
theorem x_diameterOffset (h : XAt M bf κ σ U sn) : fn_X9_diameterOffset N M 0 = some (σ.1 0, M) := by
  obtain ⟨cf, c1, hC, c2⟩ := h.cfg
  obtain ⟨s1, hS⟩ := h.st
  unfold fn_X9_diameterOffset
  simp only [s1, hS.gI (show 0 < 5 by decide), Option.bind_some]
theorem x_alloyOffset (h : XAt M bf κ σ U sn) : fn_X9_alloyOffset N M 0 = some (σ.1 1, M) := by
  obtain ⟨cf, c1, hC, c2⟩ := h.cfg
  obtain ⟨s1, hS⟩ := h.st
  unfold fn_X9_alloyOffset
  simp only [s1, hS.gI (show 1 < 5 by decide), Option.bind_some]
theorem x_margin (h : XAt M bf κ σ U sn) : fn_X9_margin N M 0 = some (σ.1 2, M) := by
  obtain ⟨cf, c1, hC, c2⟩ := h.cfg
  obtain ⟨s1, hS⟩ := h.st
  unfold fn_X9_margin
  simp only [s1, hS.gI (show 2 < 5 by decide), Option.bind_some]
theorem x_stepCount (h : XAt M bf κ σ U sn) : fn_X9_stepCount N M 0 = some (σ.1 4, M) := by
  obtain ⟨cf, c1, hC, c2⟩ := h.cfg
  obtain ⟨s1, hS⟩ := h.st
  unfold fn_X9_stepCount
  simp only [s1, hS.gI (show 4 < 5 by decide), Option.bind_some]
theorem x_hopperSize (h : XAt M bf κ σ U sn) : fn_X9_hopperSize N M 0 = some (nI (σ.2 0).length, M) := by
  obtain ⟨cf, c1, hC, c2⟩ := h.cfg
  obtain ⟨s1, hS⟩ := h.st
  unfold fn_X9_hopperSize
  simp only [s1, hS.g0, row_size hS.r0, Option.bind_some]
theorem x_loopSize (h : XAt M bf κ σ U sn) : fn_X9_loopSize N M 0 = some (nI (σ.2 1).length, M) := by
  obtain ⟨cf, c1, hC, c2⟩ := h.cfg
  obtain ⟨s1, hS⟩ := h.st
  unfold fn_X9_loopSize
  simp only [s1, hS.g1, row_size hS.r1, Option.bind_some]
theorem x_bagCount (h : XAt M bf κ σ U sn) : fn_X9_bagCount N M 0 = some (nI (σ.2 5).length, M) := by
  obtain ⟨cf, c1, hC, c2⟩ := h.cfg
  obtain ⟨s1, hS⟩ := h.st
  unfold fn_X9_bagCount
  simp only [s1, hS.g5, row_size hS.r5, Option.bind_some]
theorem x_sampleCount (h : XAt M bf κ σ U sn) : fn_X9_sampleCount N M 0 = some (nI (σ.2 8).length, M) := by
  obtain ⟨cf, c1, hC, c2⟩ := h.cfg
  obtain ⟨s1, hS⟩ := h.st
  unfold fn_X9_sampleCount
  simp only [s1, hS.g8, row_size hS.r8, Option.bind_some]
theorem x_loopType (h : XAt M bf κ σ U sn) (x1 : Int32) : fn_X9_loopType N M 0 x1 = some (atI (σ.2 1) x1, M) := by
  obtain ⟨cf, c1, hC, c2⟩ := h.cfg
  obtain ⟨s1, hS⟩ := h.st
  unfold fn_X9_loopType
  simp only [s1, hS.g1, row_ck hS.r1, row_at hS.r1, mm_b2, Option.bind_some]
theorem x_binCoins (h : XAt M bf κ σ U sn) (x1 : Int32) : fn_X9_binCoins N M 0 x1 = some (atI (σ.2 2) x1, M) := by
  obtain ⟨cf, c1, hC, c2⟩ := h.cfg
  obtain ⟨s1, hS⟩ := h.st
  unfold fn_X9_binCoins
  simp only [s1, hS.g2, row_ck hS.r2, row_at hS.r2, mm_b2, Option.bind_some]
theorem x_record (h : XAt M bf κ σ U sn) (x1 : Int32) : fn_X9_record N M 0 x1 = some (atI (σ.2 4) x1, M) := by
  obtain ⟨cf, c1, hC, c2⟩ := h.cfg
  obtain ⟨s1, hS⟩ := h.st
  unfold fn_X9_record
  simp only [s1, hS.g4, row_ck hS.r4, row_at hS.r4, mm_b2, Option.bind_some]
theorem x_bagType (h : XAt M bf κ σ U sn) (x1 : Int32) : fn_X9_bagType N M 0 x1 = some (atI (σ.2 5) x1, M) := by
  obtain ⟨cf, c1, hC, c2⟩ := h.cfg
  obtain ⟨s1, hS⟩ := h.st
  unfold fn_X9_bagType
  simp only [s1, hS.g5, row_ck hS.r5, row_at hS.r5, mm_b2, Option.bind_some]
theorem x_bagCoins (h : XAt M bf κ σ U sn) (x1 : Int32) : fn_X9_bagCoins N M 0 x1 = some (atI (σ.2 6) x1, M) := by
  obtain ⟨cf, c1, hC, c2⟩ := h.cfg
  obtain ⟨s1, hS⟩ := h.st
  unfold fn_X9_bagCoins
  simp only [s1, hS.g6, row_ck hS.r6, row_at hS.r6, mm_b2, Option.bind_some]
theorem x_isJammed (h : XAt M bf κ σ U sn) : fn_X9_isJammed N M 0 = some (σ.1 3, M) := by
  obtain ⟨cf, c1, hC, c2⟩ := h.cfg
  obtain ⟨s1, hS⟩ := h.st
  unfold fn_X9_isJammed
  simp only [s1, hS.gI (show 3 < 5 by decide), Option.bind_some, if_pos hS.2.1]
def rejI (x : Int32) : Int32 := if x < 21 then -1 else if 24 < x then -1 else x - 21
theorem ev_rejI (x : Int32) : fn_X9_rejectIndex N M x = some (rejI x, M) := by
  unfold fn_X9_rejectIndex rejI
  split
  · rfl
  · split <;> rfl
theorem x_rejected (h : XAt M bf κ σ U sn) (x1 : Int32) : fn_X9_rejected N M 0 x1 = some (atI (σ.2 3) (rejI x1), M) := by
  obtain ⟨cf, c1, hC, c2⟩ := h.cfg
  obtain ⟨s1, hS⟩ := h.st
  unfold fn_X9_rejected
  simp only [s1, hS.g3, ev_rejI, row_ck hS.r3, row_at hS.r3, mm_b2, Option.bind_some]
theorem x_isType (h : XAt M bf κ σ U sn) (x1 : Int32) : fn_X9_isType N M 0 x1 = some (if hasI (κ.2 0).length x1 then 1 else 0, M) := by
  obtain ⟨cf, c1, hC, c2⟩ := h.cfg
  unfold fn_X9_isType
  simp only [c1, hC.ty, hC.t0, row_ck hC.r0, row_has hC.r0, mm_b2, Option.bind_some]
  split <;> rfl
end XG
