/-! PURE: the reference's cells; the judgement RW -/
def mF (F : Nat → Int32) : List Value := [.int (F 0), .ref 390, .int (F 2), .int (F 3), .int (F 4), .int (F 5), .int (F 6), .int (F 7), .int (F 8), .int (F 9), .ref 391, .ref 392, .ref 393, .ref 394, .ref 395, .int (F 15), .ref 396, .ref 397, .int (F 18), .ref 398, .ref 399, .int (F 21), .int (F 22), .int (F 23), .int (F 24), .ref 400, .ref 401, .ref 402, .ref 403]
def MAt (M : Mem) (F : Nat → Int32) (A : Nat → Nat → Int32) : Prop := M[389]? = some (.inr (10, mF F)) ∧ M[390]? = some (.inl (2, 800, .inl (A 1))) ∧ M[391]? = some (.inl (0, 6, .inl (A 10))) ∧ M[392]? = some (.inl (0, 6, .inl (A 11))) ∧ M[393]? = some (.inl (0, 120, .inl (A 12))) ∧ M[394]? = some (.inl (0, 16, .inl (A 13))) ∧ M[395]? = some (.inl (0, 16, .inl (A 14))) ∧ M[396]? = some (.inl (0, 412, .inl (A 16))) ∧ M[397]? = some (.inl (0, 4944, .inl (A 17))) ∧ M[398]? = some (.inl (0, 824, .inl (A 19))) ∧ M[399]? = some (.inl (3, 2, .inl (A 20))) ∧ M[400]? = some (.inl (0, 45009, .inl (A 25))) ∧ M[401]? = some (.inl (0, 8, .inl (A 26))) ∧ M[402]? = some (.inl (0, 8, .inl (A 27))) ∧ M[403]? = some (.inl (0, 2002, .inl (A 28)))
theorem MAt.o {M : Mem} {F : Nat → Int32} {A : Nat → Nat → Int32} (h : MAt M F A) : M[389]? = some (.inr (10, mF F)) := h.1
theorem MAt.c1 {M : Mem} {F : Nat → Int32} {A : Nat → Nat → Int32} (h : MAt M F A) : M[390]? = some (.inl (2, 800, .inl (A 1))) := h.2.1
theorem MAt.c10 {M : Mem} {F : Nat → Int32} {A : Nat → Nat → Int32} (h : MAt M F A) : M[391]? = some (.inl (0, 6, .inl (A 10))) := h.2.2.1
theorem MAt.c11 {M : Mem} {F : Nat → Int32} {A : Nat → Nat → Int32} (h : MAt M F A) : M[392]? = some (.inl (0, 6, .inl (A 11))) := h.2.2.2.1
theorem MAt.c12 {M : Mem} {F : Nat → Int32} {A : Nat → Nat → Int32} (h : MAt M F A) : M[393]? = some (.inl (0, 120, .inl (A 12))) := h.2.2.2.2.1
theorem MAt.c13 {M : Mem} {F : Nat → Int32} {A : Nat → Nat → Int32} (h : MAt M F A) : M[394]? = some (.inl (0, 16, .inl (A 13))) := h.2.2.2.2.2.1
theorem MAt.c14 {M : Mem} {F : Nat → Int32} {A : Nat → Nat → Int32} (h : MAt M F A) : M[395]? = some (.inl (0, 16, .inl (A 14))) := h.2.2.2.2.2.2.1
theorem MAt.c16 {M : Mem} {F : Nat → Int32} {A : Nat → Nat → Int32} (h : MAt M F A) : M[396]? = some (.inl (0, 412, .inl (A 16))) := h.2.2.2.2.2.2.2.1
theorem MAt.c17 {M : Mem} {F : Nat → Int32} {A : Nat → Nat → Int32} (h : MAt M F A) : M[397]? = some (.inl (0, 4944, .inl (A 17))) := h.2.2.2.2.2.2.2.2.1
theorem MAt.c19 {M : Mem} {F : Nat → Int32} {A : Nat → Nat → Int32} (h : MAt M F A) : M[398]? = some (.inl (0, 824, .inl (A 19))) := h.2.2.2.2.2.2.2.2.2.1
theorem MAt.c20 {M : Mem} {F : Nat → Int32} {A : Nat → Nat → Int32} (h : MAt M F A) : M[399]? = some (.inl (3, 2, .inl (A 20))) := h.2.2.2.2.2.2.2.2.2.2.1
theorem MAt.c25 {M : Mem} {F : Nat → Int32} {A : Nat → Nat → Int32} (h : MAt M F A) : M[400]? = some (.inl (0, 45009, .inl (A 25))) := h.2.2.2.2.2.2.2.2.2.2.2.1
theorem MAt.c26 {M : Mem} {F : Nat → Int32} {A : Nat → Nat → Int32} (h : MAt M F A) : M[401]? = some (.inl (0, 8, .inl (A 26))) := h.2.2.2.2.2.2.2.2.2.2.2.2.1
theorem MAt.c27 {M : Mem} {F : Nat → Int32} {A : Nat → Nat → Int32} (h : MAt M F A) : M[402]? = some (.inl (0, 8, .inl (A 27))) := h.2.2.2.2.2.2.2.2.2.2.2.2.2.1
theorem MAt.c28 {M : Mem} {F : Nat → Int32} {A : Nat → Nat → Int32} (h : MAt M F A) : M[403]? = some (.inl (0, 2002, .inl (A 28))) := h.2.2.2.2.2.2.2.2.2.2.2.2.2.2
section MA
variable {M M' : Mem} {F : Nat → Int32} {A : Nat → Nat → Int32}
theorem MAt.keep {lo hi : Nat} (h : MAt M F A) (hf : Fr M M' lo hi) (hd : hi ≤ 389 ∨ 404 ≤ lo) : MAt M' F A := by
  refine ⟨?_, ?_, ?_, ?_, ?_, ?_, ?_, ?_, ?_, ?_, ?_, ?_, ?_, ?_, ?_⟩
  · rw [hf.2 389 (by omega)]; exact h.o
  · rw [hf.2 390 (by omega)]; exact h.c1
  · rw [hf.2 391 (by omega)]; exact h.c10
  · rw [hf.2 392 (by omega)]; exact h.c11
  · rw [hf.2 393 (by omega)]; exact h.c12
  · rw [hf.2 394 (by omega)]; exact h.c13
  · rw [hf.2 395 (by omega)]; exact h.c14
  · rw [hf.2 396 (by omega)]; exact h.c16
  · rw [hf.2 397 (by omega)]; exact h.c17
  · rw [hf.2 398 (by omega)]; exact h.c19
  · rw [hf.2 399 (by omega)]; exact h.c20
  · rw [hf.2 400 (by omega)]; exact h.c25
  · rw [hf.2 401 (by omega)]; exact h.c26
  · rw [hf.2 402 (by omega)]; exact h.c27
  · rw [hf.2 403 (by omega)]; exact h.c28
theorem MAt.ck (h : MAt M F A) : mm_ck M 389 10 = some () := ev_ck h.o
theorem MAt.i0 (h : MAt M F A) : mm_gI M 389 10 0 = some (F 0) := ev_gI h.o rfl
theorem MAt.i2 (h : MAt M F A) : mm_gI M 389 10 2 = some (F 2) := ev_gI h.o rfl
theorem MAt.i3 (h : MAt M F A) : mm_gI M 389 10 3 = some (F 3) := ev_gI h.o rfl
theorem MAt.i4 (h : MAt M F A) : mm_gI M 389 10 4 = some (F 4) := ev_gI h.o rfl
theorem MAt.i5 (h : MAt M F A) : mm_gI M 389 10 5 = some (F 5) := ev_gI h.o rfl
theorem MAt.i6 (h : MAt M F A) : mm_gI M 389 10 6 = some (F 6) := ev_gI h.o rfl
theorem MAt.i7 (h : MAt M F A) : mm_gI M 389 10 7 = some (F 7) := ev_gI h.o rfl
theorem MAt.i8 (h : MAt M F A) : mm_gI M 389 10 8 = some (F 8) := ev_gI h.o rfl
theorem MAt.i9 (h : MAt M F A) : mm_gI M 389 10 9 = some (F 9) := ev_gI h.o rfl
theorem MAt.i15 (h : MAt M F A) : mm_gI M 389 10 15 = some (F 15) := ev_gI h.o rfl
theorem MAt.i18 (h : MAt M F A) : mm_gI M 389 10 18 = some (F 18) := ev_gI h.o rfl
theorem MAt.i21 (h : MAt M F A) : mm_gI M 389 10 21 = some (F 21) := ev_gI h.o rfl
theorem MAt.i22 (h : MAt M F A) : mm_gI M 389 10 22 = some (F 22) := ev_gI h.o rfl
theorem MAt.i23 (h : MAt M F A) : mm_gI M 389 10 23 = some (F 23) := ev_gI h.o rfl
theorem MAt.i24 (h : MAt M F A) : mm_gI M 389 10 24 = some (F 24) := ev_gI h.o rfl
theorem MAt.g1 (h : MAt M F A) : mm_gR M 389 10 1 = some 390 := ev_gR h.o rfl
theorem MAt.n1 (h : MAt M F A) : mm_aN M 390 = some (nI 800) := ev_aN h.c1 (by decide)
theorem MAt.r1 (h : MAt M F A) {j : Nat} (hj : j < 800) : mm_aI M 390 2 (nI j) = some (A 1 j) := ev_aI h.c1 hj (by decide)
theorem MAt.l1 (h : MAt M F A) {j : Nat} (hj : (OfNat.ofNat j : Nat) < 800) : mm_aI M 390 2 (no_index (OfNat.ofNat j)) = some (A 1 (OfNat.ofNat j)) := ev_aI h.c1 hj (by decide)
theorem MAt.w1 (h : MAt M F A) {j : Nat} (hj : j < 800) (v : Int32) : ∃ M', mm_sI M 390 2 (nI j) v = some M' ∧ MAt M' F (va_up A 1 (upd (A 1) j v)) ∧ Fr M M' 389 404 := by
  have hf : Fr M (M.set 390 (.inl (2, 800, .inl (upd (A 1) j v)))) 390 391 := Fr.set (by omega) (by omega)
  refine ⟨_, ev_sI h.c1 hj (by decide), ?_, hf.mono (by omega) (by omega)⟩
  refine ⟨?_, ?_, ?_, ?_, ?_, ?_, ?_, ?_, ?_, ?_, ?_, ?_, ?_, ?_, ?_⟩
  · rw [hf.2 389 (by omega)]; exact h.o
  · rw [st_self h.c1]; rfl
  · rw [hf.2 391 (by omega)]; exact h.c10
  · rw [hf.2 392 (by omega)]; exact h.c11
  · rw [hf.2 393 (by omega)]; exact h.c12
  · rw [hf.2 394 (by omega)]; exact h.c13
  · rw [hf.2 395 (by omega)]; exact h.c14
  · rw [hf.2 396 (by omega)]; exact h.c16
  · rw [hf.2 397 (by omega)]; exact h.c17
  · rw [hf.2 398 (by omega)]; exact h.c19
  · rw [hf.2 399 (by omega)]; exact h.c20
  · rw [hf.2 400 (by omega)]; exact h.c25
  · rw [hf.2 401 (by omega)]; exact h.c26
  · rw [hf.2 402 (by omega)]; exact h.c27
  · rw [hf.2 403 (by omega)]; exact h.c28
theorem MAt.g10 (h : MAt M F A) : mm_gR M 389 10 10 = some 391 := ev_gR h.o rfl
theorem MAt.n10 (h : MAt M F A) : mm_aN M 391 = some (nI 6) := ev_aN h.c10 (by decide)
theorem MAt.r10 (h : MAt M F A) {j : Nat} (hj : j < 6) : mm_aI M 391 0 (nI j) = some (A 10 j) := ev_aI h.c10 hj (by decide)
theorem MAt.l10 (h : MAt M F A) {j : Nat} (hj : (OfNat.ofNat j : Nat) < 6) : mm_aI M 391 0 (no_index (OfNat.ofNat j)) = some (A 10 (OfNat.ofNat j)) := ev_aI h.c10 hj (by decide)
theorem MAt.w10 (h : MAt M F A) {j : Nat} (hj : j < 6) (v : Int32) : ∃ M', mm_sI M 391 0 (nI j) v = some M' ∧ MAt M' F (va_up A 10 (upd (A 10) j v)) ∧ Fr M M' 389 404 := by
  have hf : Fr M (M.set 391 (.inl (0, 6, .inl (upd (A 10) j v)))) 391 392 := Fr.set (by omega) (by omega)
  refine ⟨_, ev_sI h.c10 hj (by decide), ?_, hf.mono (by omega) (by omega)⟩
  refine ⟨?_, ?_, ?_, ?_, ?_, ?_, ?_, ?_, ?_, ?_, ?_, ?_, ?_, ?_, ?_⟩
  · rw [hf.2 389 (by omega)]; exact h.o
  · rw [hf.2 390 (by omega)]; exact h.c1
  · rw [st_self h.c10]; rfl
  · rw [hf.2 392 (by omega)]; exact h.c11
  · rw [hf.2 393 (by omega)]; exact h.c12
  · rw [hf.2 394 (by omega)]; exact h.c13
  · rw [hf.2 395 (by omega)]; exact h.c14
  · rw [hf.2 396 (by omega)]; exact h.c16
  · rw [hf.2 397 (by omega)]; exact h.c17
  · rw [hf.2 398 (by omega)]; exact h.c19
  · rw [hf.2 399 (by omega)]; exact h.c20
  · rw [hf.2 400 (by omega)]; exact h.c25
  · rw [hf.2 401 (by omega)]; exact h.c26
  · rw [hf.2 402 (by omega)]; exact h.c27
  · rw [hf.2 403 (by omega)]; exact h.c28
theorem MAt.g11 (h : MAt M F A) : mm_gR M 389 10 11 = some 392 := ev_gR h.o rfl
theorem MAt.n11 (h : MAt M F A) : mm_aN M 392 = some (nI 6) := ev_aN h.c11 (by decide)
theorem MAt.r11 (h : MAt M F A) {j : Nat} (hj : j < 6) : mm_aI M 392 0 (nI j) = some (A 11 j) := ev_aI h.c11 hj (by decide)
theorem MAt.l11 (h : MAt M F A) {j : Nat} (hj : (OfNat.ofNat j : Nat) < 6) : mm_aI M 392 0 (no_index (OfNat.ofNat j)) = some (A 11 (OfNat.ofNat j)) := ev_aI h.c11 hj (by decide)
theorem MAt.w11 (h : MAt M F A) {j : Nat} (hj : j < 6) (v : Int32) : ∃ M', mm_sI M 392 0 (nI j) v = some M' ∧ MAt M' F (va_up A 11 (upd (A 11) j v)) ∧ Fr M M' 389 404 := by
  have hf : Fr M (M.set 392 (.inl (0, 6, .inl (upd (A 11) j v)))) 392 393 := Fr.set (by omega) (by omega)
  refine ⟨_, ev_sI h.c11 hj (by decide), ?_, hf.mono (by omega) (by omega)⟩
  refine ⟨?_, ?_, ?_, ?_, ?_, ?_, ?_, ?_, ?_, ?_, ?_, ?_, ?_, ?_, ?_⟩
  · rw [hf.2 389 (by omega)]; exact h.o
  · rw [hf.2 390 (by omega)]; exact h.c1
  · rw [hf.2 391 (by omega)]; exact h.c10
  · rw [st_self h.c11]; rfl
  · rw [hf.2 393 (by omega)]; exact h.c12
  · rw [hf.2 394 (by omega)]; exact h.c13
  · rw [hf.2 395 (by omega)]; exact h.c14
  · rw [hf.2 396 (by omega)]; exact h.c16
  · rw [hf.2 397 (by omega)]; exact h.c17
  · rw [hf.2 398 (by omega)]; exact h.c19
  · rw [hf.2 399 (by omega)]; exact h.c20
  · rw [hf.2 400 (by omega)]; exact h.c25
  · rw [hf.2 401 (by omega)]; exact h.c26
  · rw [hf.2 402 (by omega)]; exact h.c27
  · rw [hf.2 403 (by omega)]; exact h.c28
theorem MAt.g12 (h : MAt M F A) : mm_gR M 389 10 12 = some 393 := ev_gR h.o rfl
theorem MAt.n12 (h : MAt M F A) : mm_aN M 393 = some (nI 120) := ev_aN h.c12 (by decide)
theorem MAt.r12 (h : MAt M F A) {j : Nat} (hj : j < 120) : mm_aI M 393 0 (nI j) = some (A 12 j) := ev_aI h.c12 hj (by decide)
theorem MAt.l12 (h : MAt M F A) {j : Nat} (hj : (OfNat.ofNat j : Nat) < 120) : mm_aI M 393 0 (no_index (OfNat.ofNat j)) = some (A 12 (OfNat.ofNat j)) := ev_aI h.c12 hj (by decide)
theorem MAt.w12 (h : MAt M F A) {j : Nat} (hj : j < 120) (v : Int32) : ∃ M', mm_sI M 393 0 (nI j) v = some M' ∧ MAt M' F (va_up A 12 (upd (A 12) j v)) ∧ Fr M M' 389 404 := by
  have hf : Fr M (M.set 393 (.inl (0, 120, .inl (upd (A 12) j v)))) 393 394 := Fr.set (by omega) (by omega)
  refine ⟨_, ev_sI h.c12 hj (by decide), ?_, hf.mono (by omega) (by omega)⟩
  refine ⟨?_, ?_, ?_, ?_, ?_, ?_, ?_, ?_, ?_, ?_, ?_, ?_, ?_, ?_, ?_⟩
  · rw [hf.2 389 (by omega)]; exact h.o
  · rw [hf.2 390 (by omega)]; exact h.c1
  · rw [hf.2 391 (by omega)]; exact h.c10
  · rw [hf.2 392 (by omega)]; exact h.c11
  · rw [st_self h.c12]; rfl
  · rw [hf.2 394 (by omega)]; exact h.c13
  · rw [hf.2 395 (by omega)]; exact h.c14
  · rw [hf.2 396 (by omega)]; exact h.c16
  · rw [hf.2 397 (by omega)]; exact h.c17
  · rw [hf.2 398 (by omega)]; exact h.c19
  · rw [hf.2 399 (by omega)]; exact h.c20
  · rw [hf.2 400 (by omega)]; exact h.c25
  · rw [hf.2 401 (by omega)]; exact h.c26
  · rw [hf.2 402 (by omega)]; exact h.c27
  · rw [hf.2 403 (by omega)]; exact h.c28
theorem MAt.g13 (h : MAt M F A) : mm_gR M 389 10 13 = some 394 := ev_gR h.o rfl
theorem MAt.n13 (h : MAt M F A) : mm_aN M 394 = some (nI 16) := ev_aN h.c13 (by decide)
theorem MAt.r13 (h : MAt M F A) {j : Nat} (hj : j < 16) : mm_aI M 394 0 (nI j) = some (A 13 j) := ev_aI h.c13 hj (by decide)
theorem MAt.l13 (h : MAt M F A) {j : Nat} (hj : (OfNat.ofNat j : Nat) < 16) : mm_aI M 394 0 (no_index (OfNat.ofNat j)) = some (A 13 (OfNat.ofNat j)) := ev_aI h.c13 hj (by decide)
theorem MAt.w13 (h : MAt M F A) {j : Nat} (hj : j < 16) (v : Int32) : ∃ M', mm_sI M 394 0 (nI j) v = some M' ∧ MAt M' F (va_up A 13 (upd (A 13) j v)) ∧ Fr M M' 389 404 := by
  have hf : Fr M (M.set 394 (.inl (0, 16, .inl (upd (A 13) j v)))) 394 395 := Fr.set (by omega) (by omega)
  refine ⟨_, ev_sI h.c13 hj (by decide), ?_, hf.mono (by omega) (by omega)⟩
  refine ⟨?_, ?_, ?_, ?_, ?_, ?_, ?_, ?_, ?_, ?_, ?_, ?_, ?_, ?_, ?_⟩
  · rw [hf.2 389 (by omega)]; exact h.o
  · rw [hf.2 390 (by omega)]; exact h.c1
  · rw [hf.2 391 (by omega)]; exact h.c10
  · rw [hf.2 392 (by omega)]; exact h.c11
  · rw [hf.2 393 (by omega)]; exact h.c12
  · rw [st_self h.c13]; rfl
  · rw [hf.2 395 (by omega)]; exact h.c14
  · rw [hf.2 396 (by omega)]; exact h.c16
  · rw [hf.2 397 (by omega)]; exact h.c17
  · rw [hf.2 398 (by omega)]; exact h.c19
  · rw [hf.2 399 (by omega)]; exact h.c20
  · rw [hf.2 400 (by omega)]; exact h.c25
  · rw [hf.2 401 (by omega)]; exact h.c26
  · rw [hf.2 402 (by omega)]; exact h.c27
  · rw [hf.2 403 (by omega)]; exact h.c28
theorem MAt.g14 (h : MAt M F A) : mm_gR M 389 10 14 = some 395 := ev_gR h.o rfl
theorem MAt.n14 (h : MAt M F A) : mm_aN M 395 = some (nI 16) := ev_aN h.c14 (by decide)
theorem MAt.r14 (h : MAt M F A) {j : Nat} (hj : j < 16) : mm_aI M 395 0 (nI j) = some (A 14 j) := ev_aI h.c14 hj (by decide)
theorem MAt.l14 (h : MAt M F A) {j : Nat} (hj : (OfNat.ofNat j : Nat) < 16) : mm_aI M 395 0 (no_index (OfNat.ofNat j)) = some (A 14 (OfNat.ofNat j)) := ev_aI h.c14 hj (by decide)
theorem MAt.w14 (h : MAt M F A) {j : Nat} (hj : j < 16) (v : Int32) : ∃ M', mm_sI M 395 0 (nI j) v = some M' ∧ MAt M' F (va_up A 14 (upd (A 14) j v)) ∧ Fr M M' 389 404 := by
  have hf : Fr M (M.set 395 (.inl (0, 16, .inl (upd (A 14) j v)))) 395 396 := Fr.set (by omega) (by omega)
  refine ⟨_, ev_sI h.c14 hj (by decide), ?_, hf.mono (by omega) (by omega)⟩
  refine ⟨?_, ?_, ?_, ?_, ?_, ?_, ?_, ?_, ?_, ?_, ?_, ?_, ?_, ?_, ?_⟩
  · rw [hf.2 389 (by omega)]; exact h.o
  · rw [hf.2 390 (by omega)]; exact h.c1
  · rw [hf.2 391 (by omega)]; exact h.c10
  · rw [hf.2 392 (by omega)]; exact h.c11
  · rw [hf.2 393 (by omega)]; exact h.c12
  · rw [hf.2 394 (by omega)]; exact h.c13
  · rw [st_self h.c14]; rfl
  · rw [hf.2 396 (by omega)]; exact h.c16
  · rw [hf.2 397 (by omega)]; exact h.c17
  · rw [hf.2 398 (by omega)]; exact h.c19
  · rw [hf.2 399 (by omega)]; exact h.c20
  · rw [hf.2 400 (by omega)]; exact h.c25
  · rw [hf.2 401 (by omega)]; exact h.c26
  · rw [hf.2 402 (by omega)]; exact h.c27
  · rw [hf.2 403 (by omega)]; exact h.c28
theorem MAt.g16 (h : MAt M F A) : mm_gR M 389 10 16 = some 396 := ev_gR h.o rfl
theorem MAt.n16 (h : MAt M F A) : mm_aN M 396 = some (nI 412) := ev_aN h.c16 (by decide)
theorem MAt.r16 (h : MAt M F A) {j : Nat} (hj : j < 412) : mm_aI M 396 0 (nI j) = some (A 16 j) := ev_aI h.c16 hj (by decide)
theorem MAt.l16 (h : MAt M F A) {j : Nat} (hj : (OfNat.ofNat j : Nat) < 412) : mm_aI M 396 0 (no_index (OfNat.ofNat j)) = some (A 16 (OfNat.ofNat j)) := ev_aI h.c16 hj (by decide)
theorem MAt.w16 (h : MAt M F A) {j : Nat} (hj : j < 412) (v : Int32) : ∃ M', mm_sI M 396 0 (nI j) v = some M' ∧ MAt M' F (va_up A 16 (upd (A 16) j v)) ∧ Fr M M' 389 404 := by
  have hf : Fr M (M.set 396 (.inl (0, 412, .inl (upd (A 16) j v)))) 396 397 := Fr.set (by omega) (by omega)
  refine ⟨_, ev_sI h.c16 hj (by decide), ?_, hf.mono (by omega) (by omega)⟩
  refine ⟨?_, ?_, ?_, ?_, ?_, ?_, ?_, ?_, ?_, ?_, ?_, ?_, ?_, ?_, ?_⟩
  · rw [hf.2 389 (by omega)]; exact h.o
  · rw [hf.2 390 (by omega)]; exact h.c1
  · rw [hf.2 391 (by omega)]; exact h.c10
  · rw [hf.2 392 (by omega)]; exact h.c11
  · rw [hf.2 393 (by omega)]; exact h.c12
  · rw [hf.2 394 (by omega)]; exact h.c13
  · rw [hf.2 395 (by omega)]; exact h.c14
  · rw [st_self h.c16]; rfl
  · rw [hf.2 397 (by omega)]; exact h.c17
  · rw [hf.2 398 (by omega)]; exact h.c19
  · rw [hf.2 399 (by omega)]; exact h.c20
  · rw [hf.2 400 (by omega)]; exact h.c25
  · rw [hf.2 401 (by omega)]; exact h.c26
  · rw [hf.2 402 (by omega)]; exact h.c27
  · rw [hf.2 403 (by omega)]; exact h.c28
theorem MAt.g17 (h : MAt M F A) : mm_gR M 389 10 17 = some 397 := ev_gR h.o rfl
theorem MAt.n17 (h : MAt M F A) : mm_aN M 397 = some (nI 4944) := ev_aN h.c17 (by decide)
theorem MAt.r17 (h : MAt M F A) {j : Nat} (hj : j < 4944) : mm_aI M 397 0 (nI j) = some (A 17 j) := ev_aI h.c17 hj (by decide)
theorem MAt.l17 (h : MAt M F A) {j : Nat} (hj : (OfNat.ofNat j : Nat) < 4944) : mm_aI M 397 0 (no_index (OfNat.ofNat j)) = some (A 17 (OfNat.ofNat j)) := ev_aI h.c17 hj (by decide)
theorem MAt.w17 (h : MAt M F A) {j : Nat} (hj : j < 4944) (v : Int32) : ∃ M', mm_sI M 397 0 (nI j) v = some M' ∧ MAt M' F (va_up A 17 (upd (A 17) j v)) ∧ Fr M M' 389 404 := by
  have hf : Fr M (M.set 397 (.inl (0, 4944, .inl (upd (A 17) j v)))) 397 398 := Fr.set (by omega) (by omega)
  refine ⟨_, ev_sI h.c17 hj (by decide), ?_, hf.mono (by omega) (by omega)⟩
  refine ⟨?_, ?_, ?_, ?_, ?_, ?_, ?_, ?_, ?_, ?_, ?_, ?_, ?_, ?_, ?_⟩
  · rw [hf.2 389 (by omega)]; exact h.o
  · rw [hf.2 390 (by omega)]; exact h.c1
  · rw [hf.2 391 (by omega)]; exact h.c10
  · rw [hf.2 392 (by omega)]; exact h.c11
  · rw [hf.2 393 (by omega)]; exact h.c12
  · rw [hf.2 394 (by omega)]; exact h.c13
  · rw [hf.2 395 (by omega)]; exact h.c14
  · rw [hf.2 396 (by omega)]; exact h.c16
  · rw [st_self h.c17]; rfl
  · rw [hf.2 398 (by omega)]; exact h.c19
  · rw [hf.2 399 (by omega)]; exact h.c20
  · rw [hf.2 400 (by omega)]; exact h.c25
  · rw [hf.2 401 (by omega)]; exact h.c26
  · rw [hf.2 402 (by omega)]; exact h.c27
  · rw [hf.2 403 (by omega)]; exact h.c28
theorem MAt.g19 (h : MAt M F A) : mm_gR M 389 10 19 = some 398 := ev_gR h.o rfl
theorem MAt.n19 (h : MAt M F A) : mm_aN M 398 = some (nI 824) := ev_aN h.c19 (by decide)
theorem MAt.r19 (h : MAt M F A) {j : Nat} (hj : j < 824) : mm_aI M 398 0 (nI j) = some (A 19 j) := ev_aI h.c19 hj (by decide)
theorem MAt.l19 (h : MAt M F A) {j : Nat} (hj : (OfNat.ofNat j : Nat) < 824) : mm_aI M 398 0 (no_index (OfNat.ofNat j)) = some (A 19 (OfNat.ofNat j)) := ev_aI h.c19 hj (by decide)
theorem MAt.w19 (h : MAt M F A) {j : Nat} (hj : j < 824) (v : Int32) : ∃ M', mm_sI M 398 0 (nI j) v = some M' ∧ MAt M' F (va_up A 19 (upd (A 19) j v)) ∧ Fr M M' 389 404 := by
  have hf : Fr M (M.set 398 (.inl (0, 824, .inl (upd (A 19) j v)))) 398 399 := Fr.set (by omega) (by omega)
  refine ⟨_, ev_sI h.c19 hj (by decide), ?_, hf.mono (by omega) (by omega)⟩
  refine ⟨?_, ?_, ?_, ?_, ?_, ?_, ?_, ?_, ?_, ?_, ?_, ?_, ?_, ?_, ?_⟩
  · rw [hf.2 389 (by omega)]; exact h.o
  · rw [hf.2 390 (by omega)]; exact h.c1
  · rw [hf.2 391 (by omega)]; exact h.c10
  · rw [hf.2 392 (by omega)]; exact h.c11
  · rw [hf.2 393 (by omega)]; exact h.c12
  · rw [hf.2 394 (by omega)]; exact h.c13
  · rw [hf.2 395 (by omega)]; exact h.c14
  · rw [hf.2 396 (by omega)]; exact h.c16
  · rw [hf.2 397 (by omega)]; exact h.c17
  · rw [st_self h.c19]; rfl
  · rw [hf.2 399 (by omega)]; exact h.c20
  · rw [hf.2 400 (by omega)]; exact h.c25
  · rw [hf.2 401 (by omega)]; exact h.c26
  · rw [hf.2 402 (by omega)]; exact h.c27
  · rw [hf.2 403 (by omega)]; exact h.c28
theorem MAt.g20 (h : MAt M F A) : mm_gR M 389 10 20 = some 399 := ev_gR h.o rfl
theorem MAt.n20 (h : MAt M F A) : mm_aN M 399 = some (nI 2) := ev_aN h.c20 (by decide)
theorem MAt.r20 (h : MAt M F A) {j : Nat} (hj : j < 2) : mm_aI M 399 3 (nI j) = some (A 20 j) := ev_aI h.c20 hj (by decide)
theorem MAt.l20 (h : MAt M F A) {j : Nat} (hj : (OfNat.ofNat j : Nat) < 2) : mm_aI M 399 3 (no_index (OfNat.ofNat j)) = some (A 20 (OfNat.ofNat j)) := ev_aI h.c20 hj (by decide)
theorem MAt.w20 (h : MAt M F A) {j : Nat} (hj : j < 2) (v : Int32) : ∃ M', mm_sI M 399 3 (nI j) v = some M' ∧ MAt M' F (va_up A 20 (upd (A 20) j v)) ∧ Fr M M' 389 404 := by
  have hf : Fr M (M.set 399 (.inl (3, 2, .inl (upd (A 20) j v)))) 399 400 := Fr.set (by omega) (by omega)
  refine ⟨_, ev_sI h.c20 hj (by decide), ?_, hf.mono (by omega) (by omega)⟩
  refine ⟨?_, ?_, ?_, ?_, ?_, ?_, ?_, ?_, ?_, ?_, ?_, ?_, ?_, ?_, ?_⟩
  · rw [hf.2 389 (by omega)]; exact h.o
  · rw [hf.2 390 (by omega)]; exact h.c1
  · rw [hf.2 391 (by omega)]; exact h.c10
  · rw [hf.2 392 (by omega)]; exact h.c11
  · rw [hf.2 393 (by omega)]; exact h.c12
  · rw [hf.2 394 (by omega)]; exact h.c13
  · rw [hf.2 395 (by omega)]; exact h.c14
  · rw [hf.2 396 (by omega)]; exact h.c16
  · rw [hf.2 397 (by omega)]; exact h.c17
  · rw [hf.2 398 (by omega)]; exact h.c19
  · rw [st_self h.c20]; rfl
  · rw [hf.2 400 (by omega)]; exact h.c25
  · rw [hf.2 401 (by omega)]; exact h.c26
  · rw [hf.2 402 (by omega)]; exact h.c27
  · rw [hf.2 403 (by omega)]; exact h.c28
theorem MAt.g25 (h : MAt M F A) : mm_gR M 389 10 25 = some 400 := ev_gR h.o rfl
theorem MAt.n25 (h : MAt M F A) : mm_aN M 400 = some (nI 45009) := ev_aN h.c25 (by decide)
theorem MAt.r25 (h : MAt M F A) {j : Nat} (hj : j < 45009) : mm_aI M 400 0 (nI j) = some (A 25 j) := ev_aI h.c25 hj (by decide)
theorem MAt.l25 (h : MAt M F A) {j : Nat} (hj : (OfNat.ofNat j : Nat) < 45009) : mm_aI M 400 0 (no_index (OfNat.ofNat j)) = some (A 25 (OfNat.ofNat j)) := ev_aI h.c25 hj (by decide)
theorem MAt.w25 (h : MAt M F A) {j : Nat} (hj : j < 45009) (v : Int32) : ∃ M', mm_sI M 400 0 (nI j) v = some M' ∧ MAt M' F (va_up A 25 (upd (A 25) j v)) ∧ Fr M M' 389 404 := by
  have hf : Fr M (M.set 400 (.inl (0, 45009, .inl (upd (A 25) j v)))) 400 401 := Fr.set (by omega) (by omega)
  refine ⟨_, ev_sI h.c25 hj (by decide), ?_, hf.mono (by omega) (by omega)⟩
  refine ⟨?_, ?_, ?_, ?_, ?_, ?_, ?_, ?_, ?_, ?_, ?_, ?_, ?_, ?_, ?_⟩
  · rw [hf.2 389 (by omega)]; exact h.o
  · rw [hf.2 390 (by omega)]; exact h.c1
  · rw [hf.2 391 (by omega)]; exact h.c10
  · rw [hf.2 392 (by omega)]; exact h.c11
  · rw [hf.2 393 (by omega)]; exact h.c12
  · rw [hf.2 394 (by omega)]; exact h.c13
  · rw [hf.2 395 (by omega)]; exact h.c14
  · rw [hf.2 396 (by omega)]; exact h.c16
  · rw [hf.2 397 (by omega)]; exact h.c17
  · rw [hf.2 398 (by omega)]; exact h.c19
  · rw [hf.2 399 (by omega)]; exact h.c20
  · rw [st_self h.c25]; rfl
  · rw [hf.2 401 (by omega)]; exact h.c26
  · rw [hf.2 402 (by omega)]; exact h.c27
  · rw [hf.2 403 (by omega)]; exact h.c28
theorem MAt.g26 (h : MAt M F A) : mm_gR M 389 10 26 = some 401 := ev_gR h.o rfl
theorem MAt.n26 (h : MAt M F A) : mm_aN M 401 = some (nI 8) := ev_aN h.c26 (by decide)
theorem MAt.r26 (h : MAt M F A) {j : Nat} (hj : j < 8) : mm_aI M 401 0 (nI j) = some (A 26 j) := ev_aI h.c26 hj (by decide)
theorem MAt.l26 (h : MAt M F A) {j : Nat} (hj : (OfNat.ofNat j : Nat) < 8) : mm_aI M 401 0 (no_index (OfNat.ofNat j)) = some (A 26 (OfNat.ofNat j)) := ev_aI h.c26 hj (by decide)
theorem MAt.w26 (h : MAt M F A) {j : Nat} (hj : j < 8) (v : Int32) : ∃ M', mm_sI M 401 0 (nI j) v = some M' ∧ MAt M' F (va_up A 26 (upd (A 26) j v)) ∧ Fr M M' 389 404 := by
  have hf : Fr M (M.set 401 (.inl (0, 8, .inl (upd (A 26) j v)))) 401 402 := Fr.set (by omega) (by omega)
  refine ⟨_, ev_sI h.c26 hj (by decide), ?_, hf.mono (by omega) (by omega)⟩
  refine ⟨?_, ?_, ?_, ?_, ?_, ?_, ?_, ?_, ?_, ?_, ?_, ?_, ?_, ?_, ?_⟩
  · rw [hf.2 389 (by omega)]; exact h.o
  · rw [hf.2 390 (by omega)]; exact h.c1
  · rw [hf.2 391 (by omega)]; exact h.c10
  · rw [hf.2 392 (by omega)]; exact h.c11
  · rw [hf.2 393 (by omega)]; exact h.c12
  · rw [hf.2 394 (by omega)]; exact h.c13
  · rw [hf.2 395 (by omega)]; exact h.c14
  · rw [hf.2 396 (by omega)]; exact h.c16
  · rw [hf.2 397 (by omega)]; exact h.c17
  · rw [hf.2 398 (by omega)]; exact h.c19
  · rw [hf.2 399 (by omega)]; exact h.c20
  · rw [hf.2 400 (by omega)]; exact h.c25
  · rw [st_self h.c26]; rfl
  · rw [hf.2 402 (by omega)]; exact h.c27
  · rw [hf.2 403 (by omega)]; exact h.c28
theorem MAt.g27 (h : MAt M F A) : mm_gR M 389 10 27 = some 402 := ev_gR h.o rfl
theorem MAt.n27 (h : MAt M F A) : mm_aN M 402 = some (nI 8) := ev_aN h.c27 (by decide)
theorem MAt.r27 (h : MAt M F A) {j : Nat} (hj : j < 8) : mm_aI M 402 0 (nI j) = some (A 27 j) := ev_aI h.c27 hj (by decide)
theorem MAt.l27 (h : MAt M F A) {j : Nat} (hj : (OfNat.ofNat j : Nat) < 8) : mm_aI M 402 0 (no_index (OfNat.ofNat j)) = some (A 27 (OfNat.ofNat j)) := ev_aI h.c27 hj (by decide)
theorem MAt.w27 (h : MAt M F A) {j : Nat} (hj : j < 8) (v : Int32) : ∃ M', mm_sI M 402 0 (nI j) v = some M' ∧ MAt M' F (va_up A 27 (upd (A 27) j v)) ∧ Fr M M' 389 404 := by
  have hf : Fr M (M.set 402 (.inl (0, 8, .inl (upd (A 27) j v)))) 402 403 := Fr.set (by omega) (by omega)
  refine ⟨_, ev_sI h.c27 hj (by decide), ?_, hf.mono (by omega) (by omega)⟩
  refine ⟨?_, ?_, ?_, ?_, ?_, ?_, ?_, ?_, ?_, ?_, ?_, ?_, ?_, ?_, ?_⟩
  · rw [hf.2 389 (by omega)]; exact h.o
  · rw [hf.2 390 (by omega)]; exact h.c1
  · rw [hf.2 391 (by omega)]; exact h.c10
  · rw [hf.2 392 (by omega)]; exact h.c11
  · rw [hf.2 393 (by omega)]; exact h.c12
  · rw [hf.2 394 (by omega)]; exact h.c13
  · rw [hf.2 395 (by omega)]; exact h.c14
  · rw [hf.2 396 (by omega)]; exact h.c16
  · rw [hf.2 397 (by omega)]; exact h.c17
  · rw [hf.2 398 (by omega)]; exact h.c19
  · rw [hf.2 399 (by omega)]; exact h.c20
  · rw [hf.2 400 (by omega)]; exact h.c25
  · rw [hf.2 401 (by omega)]; exact h.c26
  · rw [st_self h.c27]; rfl
  · rw [hf.2 403 (by omega)]; exact h.c28
theorem MAt.g28 (h : MAt M F A) : mm_gR M 389 10 28 = some 403 := ev_gR h.o rfl
theorem MAt.n28 (h : MAt M F A) : mm_aN M 403 = some (nI 2002) := ev_aN h.c28 (by decide)
theorem MAt.r28 (h : MAt M F A) {j : Nat} (hj : j < 2002) : mm_aI M 403 0 (nI j) = some (A 28 j) := ev_aI h.c28 hj (by decide)
theorem MAt.l28 (h : MAt M F A) {j : Nat} (hj : (OfNat.ofNat j : Nat) < 2002) : mm_aI M 403 0 (no_index (OfNat.ofNat j)) = some (A 28 (OfNat.ofNat j)) := ev_aI h.c28 hj (by decide)
theorem MAt.w28 (h : MAt M F A) {j : Nat} (hj : j < 2002) (v : Int32) : ∃ M', mm_sI M 403 0 (nI j) v = some M' ∧ MAt M' F (va_up A 28 (upd (A 28) j v)) ∧ Fr M M' 389 404 := by
  have hf : Fr M (M.set 403 (.inl (0, 2002, .inl (upd (A 28) j v)))) 403 404 := Fr.set (by omega) (by omega)
  refine ⟨_, ev_sI h.c28 hj (by decide), ?_, hf.mono (by omega) (by omega)⟩
  refine ⟨?_, ?_, ?_, ?_, ?_, ?_, ?_, ?_, ?_, ?_, ?_, ?_, ?_, ?_, ?_⟩
  · rw [hf.2 389 (by omega)]; exact h.o
  · rw [hf.2 390 (by omega)]; exact h.c1
  · rw [hf.2 391 (by omega)]; exact h.c10
  · rw [hf.2 392 (by omega)]; exact h.c11
  · rw [hf.2 393 (by omega)]; exact h.c12
  · rw [hf.2 394 (by omega)]; exact h.c13
  · rw [hf.2 395 (by omega)]; exact h.c14
  · rw [hf.2 396 (by omega)]; exact h.c16
  · rw [hf.2 397 (by omega)]; exact h.c17
  · rw [hf.2 398 (by omega)]; exact h.c19
  · rw [hf.2 399 (by omega)]; exact h.c20
  · rw [hf.2 400 (by omega)]; exact h.c25
  · rw [hf.2 401 (by omega)]; exact h.c26
  · rw [hf.2 402 (by omega)]; exact h.c27
  · rw [st_self h.c28]; rfl
theorem mF_set {j : Nat} {v : Int32} (hj : j ∈ [0, 2, 3, 4, 5, 6, 7, 8, 9, 15, 18, 21, 22, 23, 24]) : (mF F).set j (.int v) = mF (upd F j v) := by
  simp only [List.mem_cons, List.not_mem_nil, or_false] at hj
  rcases hj with rfl | rfl | rfl | rfl | rfl | rfl | rfl | rfl | rfl | rfl | rfl | rfl | rfl | rfl | rfl <;> rfl
theorem MAt.pF (h : MAt M F A) {j : Nat} (hj : j ∈ [0, 2, 3, 4, 5, 6, 7, 8, 9, 15, 18, 21, 22, 23, 24]) (v : Int32) : ∃ M', mm_pV M 389 10 j (.int v) = some M' ∧ MAt M' (upd F j v) A ∧ Fr M M' 389 404 := by
  have hl : j < (mF F).length := by simp only [List.mem_cons, List.not_mem_nil, or_false] at hj; simp only [mF, List.length_cons, List.length_nil]; omega
  have hf : Fr M (M.set 389 (.inr (10, (mF F).set j (.int v)))) 389 390 := Fr.set (by omega) (by omega)
  refine ⟨_, ev_pV h.o hl, ?_, hf.mono (by omega) (by omega)⟩
  refine ⟨?_, ?_, ?_, ?_, ?_, ?_, ?_, ?_, ?_, ?_, ?_, ?_, ?_, ?_, ?_⟩
  · rw [st_self h.o, mF_set hj]
  · rw [hf.2 390 (by omega)]; exact h.c1
  · rw [hf.2 391 (by omega)]; exact h.c10
  · rw [hf.2 392 (by omega)]; exact h.c11
  · rw [hf.2 393 (by omega)]; exact h.c12
  · rw [hf.2 394 (by omega)]; exact h.c13
  · rw [hf.2 395 (by omega)]; exact h.c14
  · rw [hf.2 396 (by omega)]; exact h.c16
  · rw [hf.2 397 (by omega)]; exact h.c17
  · rw [hf.2 398 (by omega)]; exact h.c19
  · rw [hf.2 399 (by omega)]; exact h.c20
  · rw [hf.2 400 (by omega)]; exact h.c25
  · rw [hf.2 401 (by omega)]; exact h.c26
  · rw [hf.2 402 (by omega)]; exact h.c27
  · rw [hf.2 403 (by omega)]; exact h.c28
end MA
/-- x ends, the reference's cells hold what Q says, no other cell has changed -/
def RW {α : Type} (M : Mem) (x : Option (α × Mem)) (Q : α → (Nat → Int32) → (Nat → Nat → Int32) → Prop) : Prop := ∃ r M' F' A', x = some (r, M') ∧ MAt M' F' A' ∧ Fr M M' 389 404 ∧ Q r F' A'
section RWs
variable {α β : Type} {M : Mem} {F : Nat → Int32} {A : Nat → Nat → Int32} {Q : α → (Nat → Int32) → (Nat → Nat → Int32) → Prop}
theorem RW.ret {r : α} (h : MAt M F A) (q : Q r F A) : RW M (some (r, M)) Q := ⟨r, M, F, A, rfl, h, Fr.rf, q⟩
theorem RW.fr {M' : Mem} {x : Option (α × Mem)} (hf : Fr M M' 389 404) (h : RW M' x Q) : RW M x Q := by
  obtain ⟨r, M2, F', A', h1, h2, h3, h4⟩ := h
  exact ⟨r, M2, F', A', h1, h2, hf.tr h3, h4⟩
theorem RW.call {y : Option (β × Mem)} {f : β → Mem → Option (α × Mem)} {Q1 : β → (Nat → Int32) → (Nat → Nat → Int32) → Prop} (h1 : RW M y Q1) (k : ∀ r M' F' A', MAt M' F' A' → Q1 r F' A' → RW M' (f r M') Q) : RW M (mm_b2 y f) Q := by
  obtain ⟨r, M2, F', A', h1, h2, h3, h4⟩ := h1
  rw [h1]
  exact RW.fr h3 (k r M2 F' A' h2 h4)
theorem RW.imp {x : Option (α × Mem)} {Q' : α → (Nat → Int32) → (Nat → Nat → Int32) → Prop} (h : RW M x Q) (k : ∀ r F' A', Q r F' A' → Q' r F' A') : RW M x Q' := by
  obtain ⟨r, M2, F', A', h1, h2, h3, h4⟩ := h
  exact ⟨r, M2, F', A', h1, h2, h3, k _ _ _ h4⟩
theorem RW.pF {j : Nat} {v : Int32} {f : Mem → Option (α × Mem)} (h : MAt M F A) (k : ∀ M', MAt M' (upd F j v) A → RW M' (f M') Q) (hj : j ∈ [0, 2, 3, 4, 5, 6, 7, 8, 9, 15, 18, 21, 22, 23, 24] := by decide) : RW M ((mm_pV M 389 10 j (.int v)).bind f) Q := by
  obtain ⟨M', e, h', hf⟩ := h.pF hj v
  rw [e]
  exact RW.fr hf (k M' h')
theorem RW.w1 {j : Nat} {v : Int32} {f : Mem → Option (α × Mem)} (h : MAt M F A) (hj : j < 800) (k : ∀ M', MAt M' F (va_up A 1 (upd (A 1) j v)) → RW M' (f M') Q) : RW M ((mm_sI M 390 2 (nI j) v).bind f) Q := by
  obtain ⟨M', e, h', hf⟩ := h.w1 hj v
  rw [e]
  exact RW.fr hf (k M' h')
theorem RW.w10 {j : Nat} {v : Int32} {f : Mem → Option (α × Mem)} (h : MAt M F A) (hj : j < 6) (k : ∀ M', MAt M' F (va_up A 10 (upd (A 10) j v)) → RW M' (f M') Q) : RW M ((mm_sI M 391 0 (nI j) v).bind f) Q := by
  obtain ⟨M', e, h', hf⟩ := h.w10 hj v
  rw [e]
  exact RW.fr hf (k M' h')
theorem RW.w11 {j : Nat} {v : Int32} {f : Mem → Option (α × Mem)} (h : MAt M F A) (hj : j < 6) (k : ∀ M', MAt M' F (va_up A 11 (upd (A 11) j v)) → RW M' (f M') Q) : RW M ((mm_sI M 392 0 (nI j) v).bind f) Q := by
  obtain ⟨M', e, h', hf⟩ := h.w11 hj v
  rw [e]
  exact RW.fr hf (k M' h')
theorem RW.w12 {j : Nat} {v : Int32} {f : Mem → Option (α × Mem)} (h : MAt M F A) (hj : j < 120) (k : ∀ M', MAt M' F (va_up A 12 (upd (A 12) j v)) → RW M' (f M') Q) : RW M ((mm_sI M 393 0 (nI j) v).bind f) Q := by
  obtain ⟨M', e, h', hf⟩ := h.w12 hj v
  rw [e]
  exact RW.fr hf (k M' h')
theorem RW.w13 {j : Nat} {v : Int32} {f : Mem → Option (α × Mem)} (h : MAt M F A) (hj : j < 16) (k : ∀ M', MAt M' F (va_up A 13 (upd (A 13) j v)) → RW M' (f M') Q) : RW M ((mm_sI M 394 0 (nI j) v).bind f) Q := by
  obtain ⟨M', e, h', hf⟩ := h.w13 hj v
  rw [e]
  exact RW.fr hf (k M' h')
theorem RW.w14 {j : Nat} {v : Int32} {f : Mem → Option (α × Mem)} (h : MAt M F A) (hj : j < 16) (k : ∀ M', MAt M' F (va_up A 14 (upd (A 14) j v)) → RW M' (f M') Q) : RW M ((mm_sI M 395 0 (nI j) v).bind f) Q := by
  obtain ⟨M', e, h', hf⟩ := h.w14 hj v
  rw [e]
  exact RW.fr hf (k M' h')
theorem RW.w16 {j : Nat} {v : Int32} {f : Mem → Option (α × Mem)} (h : MAt M F A) (hj : j < 412) (k : ∀ M', MAt M' F (va_up A 16 (upd (A 16) j v)) → RW M' (f M') Q) : RW M ((mm_sI M 396 0 (nI j) v).bind f) Q := by
  obtain ⟨M', e, h', hf⟩ := h.w16 hj v
  rw [e]
  exact RW.fr hf (k M' h')
theorem RW.w17 {j : Nat} {v : Int32} {f : Mem → Option (α × Mem)} (h : MAt M F A) (hj : j < 4944) (k : ∀ M', MAt M' F (va_up A 17 (upd (A 17) j v)) → RW M' (f M') Q) : RW M ((mm_sI M 397 0 (nI j) v).bind f) Q := by
  obtain ⟨M', e, h', hf⟩ := h.w17 hj v
  rw [e]
  exact RW.fr hf (k M' h')
theorem RW.w19 {j : Nat} {v : Int32} {f : Mem → Option (α × Mem)} (h : MAt M F A) (hj : j < 824) (k : ∀ M', MAt M' F (va_up A 19 (upd (A 19) j v)) → RW M' (f M') Q) : RW M ((mm_sI M 398 0 (nI j) v).bind f) Q := by
  obtain ⟨M', e, h', hf⟩ := h.w19 hj v
  rw [e]
  exact RW.fr hf (k M' h')
theorem RW.w20 {j : Nat} {v : Int32} {f : Mem → Option (α × Mem)} (h : MAt M F A) (hj : j < 2) (k : ∀ M', MAt M' F (va_up A 20 (upd (A 20) j v)) → RW M' (f M') Q) : RW M ((mm_sI M 399 3 (nI j) v).bind f) Q := by
  obtain ⟨M', e, h', hf⟩ := h.w20 hj v
  rw [e]
  exact RW.fr hf (k M' h')
theorem RW.w25 {j : Nat} {v : Int32} {f : Mem → Option (α × Mem)} (h : MAt M F A) (hj : j < 45009) (k : ∀ M', MAt M' F (va_up A 25 (upd (A 25) j v)) → RW M' (f M') Q) : RW M ((mm_sI M 400 0 (nI j) v).bind f) Q := by
  obtain ⟨M', e, h', hf⟩ := h.w25 hj v
  rw [e]
  exact RW.fr hf (k M' h')
theorem RW.w26 {j : Nat} {v : Int32} {f : Mem → Option (α × Mem)} (h : MAt M F A) (hj : j < 8) (k : ∀ M', MAt M' F (va_up A 26 (upd (A 26) j v)) → RW M' (f M') Q) : RW M ((mm_sI M 401 0 (nI j) v).bind f) Q := by
  obtain ⟨M', e, h', hf⟩ := h.w26 hj v
  rw [e]
  exact RW.fr hf (k M' h')
theorem RW.w27 {j : Nat} {v : Int32} {f : Mem → Option (α × Mem)} (h : MAt M F A) (hj : j < 8) (k : ∀ M', MAt M' F (va_up A 27 (upd (A 27) j v)) → RW M' (f M') Q) : RW M ((mm_sI M 402 0 (nI j) v).bind f) Q := by
  obtain ⟨M', e, h', hf⟩ := h.w27 hj v
  rw [e]
  exact RW.fr hf (k M' h')
theorem RW.w28 {j : Nat} {v : Int32} {f : Mem → Option (α × Mem)} (h : MAt M F A) (hj : j < 2002) (k : ∀ M', MAt M' F (va_up A 28 (upd (A 28) j v)) → RW M' (f M') Q) : RW M ((mm_sI M 403 0 (nI j) v).bind f) Q := by
  obtain ⟨M', e, h', hf⟩ := h.w28 hj v
  rw [e]
  exact RW.fr hf (k M' h')
end RWs
theorem b2s {α ρ : Type} {r : α} {M : Mem} {K : α → Mem → Option ρ} : mm_b2 (some (r, M)) K = K r M := by simp only [mm_b2]
theorem obs {α β : Type} {a : α} {f : α → Option β} : (some a).bind f = f a := by simp only [Option.bind_some]
theorem lA (m n : Nat) : (no_index (OfNat.ofNat m : Int32)) + nI n = nI (OfNat.ofNat m + n) := nI_add m n
theorem lB (m n : Nat) : nI n + (no_index (OfNat.ofNat m : Int32)) = nI (n + OfNat.ofNat m) := nI_add n m
theorem lM (m n : Nat) : (no_index (OfNat.ofNat m : Int32)) * nI n = nI (OfNat.ofNat m * n) := pk_mul m n
theorem lS {m n : Nat} (h : (OfNat.ofNat m : Nat) ≤ n) : nI n - (no_index (OfNat.ofNat m : Int32)) = nI (n - OfNat.ofNat m) := pk_sub h
theorem lLe {m n : Nat} (hm : (OfNat.ofNat m : Nat) < 2 ^ 31) (hn : n < 2 ^ 31) : (no_index (OfNat.ofNat m : Int32)) ≤ nI n ↔ OfNat.ofNat m ≤ n := nI_leI hm hn
theorem lGe {m n : Nat} (hm : (OfNat.ofNat m : Nat) < 2 ^ 31) (hn : n < 2 ^ 31) : nI n ≤ (no_index (OfNat.ofNat m : Int32)) ↔ n ≤ OfNat.ofNat m := nI_leI hn hm
theorem lLt {m n : Nat} (hm : (OfNat.ofNat m : Nat) < 2 ^ 31) (hn : n < 2 ^ 31) : (no_index (OfNat.ofNat m : Int32)) < nI n ↔ OfNat.ofNat m < n := nI_ltI hm hn
theorem lGt {m n : Nat} (hm : (OfNat.ofNat m : Nat) < 2 ^ 31) (hn : n < 2 ^ 31) : nI n < (no_index (OfNat.ofNat m : Int32)) ↔ n < OfNat.ofNat m := nI_ltI hn hm
theorem lEq {m n : Nat} (hm : (OfNat.ofNat m : Nat) < 2 ^ 31) (hn : n < 2 ^ 31) : nI n = (no_index (OfNat.ofNat m : Int32)) ↔ n = OfNat.ofNat m := nI_eq hn hm
