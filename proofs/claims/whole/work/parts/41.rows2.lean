theorem rm_loop {N : Nat} {a c n : Nat} {x2 : Int32} (hn : 1 ≤ n) (hc : n ≤ c) (hcc : c < 2 ^ 15) : ∀ (m : Nat) (M : Mem) (k : Nat) (f : Nat → Int32), M[a]? = some (.inr (6, [.ref (a + 1), .int (nI n)])) → M[a + 1]? = some (.inl (0, c, .inl f)) → 1 ≤ k → k ≤ n → n - k < m →
    ∃ M' f', fn_X6_removeAt_21 N m M a x2 (nI k) = some (x2, M') ∧ M'[a]? = some (.inr (6, [.ref (a + 1), .int (nI (n - 1))])) ∧ M'[a + 1]? = some (.inl (0, c, .inl f')) ∧ (∀ i, f' i = if k - 1 ≤ i ∧ i < n - 1 then f (i + 1) else f i) ∧ Fr M M' a (a + 2) := by
  intro m
  induction m with
  | zero => intro M k f _ _ _ _ h; omega
  | succ m ih =>
    intro M k f h1 h2 hk1 hk hm
    rw [fn_X6_removeAt_21.eq_2]
    rw [ev_gI h1 rfl, Option.bind_some]
    by_cases he : k = n
    · subst he
      rw [if_pos (Int32.le_refl _)]
      unfold fn_X6_removeAt_58
      rw [ev_gI h1 rfl, Option.bind_some, ev_pV h1 (by simp), Option.bind_some]
      refine ⟨_, f, rfl, ?_, by rw [st_ne (by omega)]; exact h2, fun i => ?_, Fr.set (by omega) (by omega)⟩
      · rw [st_self h1]
        obtain ⟨q, rfl⟩ : ∃ q, k = q + 1 := ⟨k - 1, by omega⟩
        simp [nI_pred]
      · rw [if_neg (by omega)]
    · rw [if_neg (nI_ge (by omega) (by omega)), ev_gR h1 rfl, Option.bind_some, ev_aN h2 (by omega), Option.bind_some, if_neg (nI_ge (by omega) (by omega)), Option.bind_some, Option.bind_some, ev_aI h2 (by omega) (by omega), Option.bind_some]
      have e1 : nI k - 1 = nI (k - 1) := by
        obtain ⟨q, rfl⟩ : ∃ q, k = q + 1 := ⟨k - 1, by omega⟩
        simp [nI_pred]
      rw [e1, ev_sI h2 (by omega) (by omega), Option.bind_some, nI_1]
      obtain ⟨M', f', q1, q2, q3, q4, q5⟩ := ih (M.set (a + 1) (.inl (0, c, .inl (upd f (k - 1) (f k))))) (k + 1) (upd f (k - 1) (f k)) (by rw [st_ne (by omega)]; exact h1) (st_self h2) (by omega) (by omega) (by omega)
      refine ⟨M', f', q1, q2, q3, fun i => ?_, (Fr.set (by omega) (by omega)).tr q5⟩
      rw [q4 i]
      by_cases h5 : k + 1 - 1 ≤ i ∧ i < n - 1
      · rw [if_pos h5, if_pos (by omega), pk_un (by omega)]
      · rw [if_neg h5]
        by_cases h6 : i = k - 1
        · subst h6
          rw [pk_us, if_pos (by omega)]
          congr 1
          omega
        · rw [pk_un h6, if_neg (by omega)]
theorem row_rem {N : Nat} {M : Mem} {a c j : Nat} {l : List Int32} (h : RowAt M a c l) (hj : j < l.length) (hN : 2 ^ 15 ≤ N) : ∃ M', fn_X6_removeAt N M a (nI j) = some (l.getD j 0, M') ∧ RowAt M' a c (l.eraseIdx j) ∧ Fr M M' a (a + 2) := by
  have hh := row_has (N := N) h (nI j)
  have hk := row_ck h
  obtain ⟨f, h1, h2, hl, hc, hf⟩ := h
  unfold fn_X6_removeAt
  rw [hk, Option.bind_some, hh, hasI_nI hj (by omega)]
  simp only [mm_b2, if_true, if_neg (show ¬ (1 : Int32) = 0 by decide)]
  rw [ev_gR h1 rfl, Option.bind_some, ev_aI h2 (by omega) (by omega), Option.bind_some, nI_1]
  obtain ⟨M', f', q1, q2, q3, q4, q5⟩ := rm_loop (N := N) (x2 := f j) (show 1 ≤ l.length by omega) hl hc N M (j + 1) f h1 h2 (by omega) (by omega) (by omega)
  refine ⟨M', by rw [q1, hf j hj], ⟨f', ?_, q3, ?_, hc, fun i hi => ?_⟩, q5⟩
  · rw [q2, List.length_eraseIdx, if_pos hj]
  · rw [List.length_eraseIdx, if_pos hj]; omega
  · rw [List.length_eraseIdx, if_pos hj] at hi
    rw [q4 i]
    simp only [List.getD_eq_getElem?_getD, List.getElem?_eraseIdx]
    by_cases h6 : i < j
    · rw [if_neg (by omega), if_pos h6, hf i (by omega), List.getD_eq_getElem?_getD]
    · rw [if_pos (by omega), if_neg h6, hf (i + 1) (by omega), List.getD_eq_getElem?_getD]
theorem fill_loop {N : Nat} {b c n : Nat} {v : Int32} (hn : n ≤ c) (hcc : c < 2 ^ 20) : ∀ (m : Nat) (M : Mem) (k : Nat) (f : Nat → Int32), M[b]? = some (.inl (0, c, .inl f)) → k ≤ n → n - k < m →
    ∃ f', fn_J7_fill_fda19_10 N m M b (nI n) v (nI k) = some ((), M.set b (.inl (0, c, .inl f'))) ∧ ∀ i, f' i = if k ≤ i ∧ i < n then v else f i := by
  intro m
  induction m with
  | zero => intro M k f _ _ h; omega
  | succ m ih =>
    intro M k f h1 hk hm
    rw [fn_J7_fill_fda19_10.eq_2]
    by_cases he : k = n
    · subst he
      rw [if_pos (Int32.le_refl _)]
      refine ⟨f, ?_, fun i => by rw [if_neg (by omega)]⟩
      have := List.getElem?_eq_some_iff.mp h1
      obtain ⟨hb, he⟩ := this
      rw [← he, List.set_getElem_self]
    · rw [if_neg (nI_ge (by omega) (by omega)), ev_sI h1 (by omega) (by omega), Option.bind_some, nI_1]
      obtain ⟨f', q1, q2⟩ := ih (M.set b (.inl (0, c, .inl (upd f k v)))) (k + 1) (upd f k v) (st_self h1) (by omega) (by omega)
      refine ⟨f', by rw [q1, List.set_set], fun i => ?_⟩
      rw [q2 i]
      by_cases h5 : k + 1 ≤ i ∧ i < n
      · rw [if_pos h5, if_pos (by omega)]
      · rw [if_neg h5]
        by_cases h6 : i = k
        · subst h6; rw [pk_us, if_pos (by omega)]
        · rw [pk_un h6, if_neg (by omega)]
theorem fill_int {N : Nat} {M : Mem} {b c n : Nat} {v : Int32} {f : Nat → Int32} (h : M[b]? = some (.inl (0, c, .inl f))) (hn : n ≤ c) (hcc : c < 2 ^ 20) (hN : 2 ^ 20 ≤ N ∨ c < N) : ∃ f', fn_J7_fill_fda19 N M b 0 (nI n) v = some ((), M.set b (.inl (0, c, .inl f'))) ∧ ∀ i, f' i = if i < n then v else f i := by
  unfold fn_J7_fill_fda19
  rw [ev_aN h (by omega), Option.bind_some]
  unfold fn_J7_rangeCheck_23922
  rw [if_pos (show (0 : Int32) ≤ nI n from by rw [← nI_0]; exact nI_le (by omega) (by omega)), if_pos (by decide), if_pos (nI_le hn (by omega))]
  simp only [mm_b2]
  obtain ⟨f', q1, q2⟩ := fill_loop (N := N) (v := v) hn hcc N M 0 f h (by omega) (by omega)
  rw [nI_0] at q1
  exact ⟨f', q1, fun i => by rw [q2 i]; simp⟩
theorem row_fill {N : Nat} {M : Mem} {a c n : Nat} {l : List Int32} (h : RowAt M a c l) (hn : n ≤ c) (hN : 2 ^ 15 ≤ N) : ∃ M', fn_X6_fillWithZeros N M a (nI n) = some ((), M') ∧ RowAt M' a c (List.replicate n 0) ∧ Fr M M' a (a + 2) := by
  obtain ⟨f, h1, h2, hl, hc, hf⟩ := h
  unfold fn_X6_fillWithZeros
  rw [ev_gR h1 rfl, Option.bind_some, ev_aN h2 (by omega), Option.bind_some]
  have e2 : (if nI c < nI n then nI c else nI n) = nI n := by rw [if_neg (nI_nlt hn (by omega))]
  have e3 : (if (0 : Int32) < nI n then nI n else 0) = nI n := by
    split
    · rfl
    · rename_i hz
      have : n = 0 := by
        apply Nat.eq_zero_of_not_pos
        intro hp
        exact hz (by have := nI_lt hp (show n < 2 ^ 31 by omega); rwa [nI_0] at this)
      rw [this]; rfl
  simp only [mm_lt, e2, e3]
  rw [ev_pV h1 (by simp), Option.bind_some]
  have k1 : (M.set a (.inr (6, [Value.ref (a + 1), .int (nI l.length)].set 1 (.int (nI n)))))[a]? = some (.inr (6, [.ref (a + 1), .int (nI n)])) := st_self h1
  have k3 : (M.set a (.inr (6, [Value.ref (a + 1), .int (nI l.length)].set 1 (.int (nI n)))))[a + 1]? = some (.inl (0, c, .inl f)) := by rw [st_ne (by omega)]; exact h2
  rw [ev_gR k1 rfl, Option.bind_some, ev_gI k1 rfl, Option.bind_some]
  obtain ⟨f', q1, q2⟩ := fill_int (N := N) (v := 0) k3 hn (by omega) (Or.inr (by omega))
  rw [q1]
  simp only [mm_b2]
  refine ⟨_, rfl, ⟨f', ?_, st_self k3, by simpa using hn, hc, fun i hi => ?_⟩, (Fr.set (by omega) (by omega)).tr (Fr.set (by omega) (by omega))⟩
  · rw [st_ne (by omega), k1]; simp
  · simp only [List.length_replicate] at hi
    rw [q2 i, if_pos hi]
    simp [List.getD_eq_getElem?_getD, hi]
