/-! PURE: reading the small heap; rows as lists -/
theorem ev_gV {M : Mem} {a ci j : Nat} {fs : List Value} (h : M[a]? = some (.inr (ci, fs))) : mm_gV M a ci j = fs[j]? := by
  unfold mm_gV; rw [h]; simp
theorem ev_gI {M : Mem} {a ci j : Nat} {fs : List Value} {v : Int32} (h : M[a]? = some (.inr (ci, fs))) (h2 : fs[j]? = some (.int v)) : mm_gI M a ci j = some v := by
  unfold mm_gI; rw [ev_gV h, h2]
theorem ev_gL {M : Mem} {a ci j : Nat} {fs : List Value} {v : Int64} (h : M[a]? = some (.inr (ci, fs))) (h2 : fs[j]? = some (.long v)) : mm_gL M a ci j = some v := by
  unfold mm_gL; rw [ev_gV h, h2]
theorem ev_gR {M : Mem} {a ci j : Nat} {fs : List Value} {v : Nat} (h : M[a]? = some (.inr (ci, fs))) (h2 : fs[j]? = some (.ref v)) : mm_gR M a ci j = some v := by
  unfold mm_gR; rw [ev_gV h, h2]
theorem ev_ck {M : Mem} {a ci : Nat} {fs : List Value} (h : M[a]? = some (.inr (ci, fs))) : mm_ck M a ci = some () := by
  unfold mm_ck; rw [h]; simp
theorem ev_pV {M : Mem} {a ci j : Nat} {fs : List Value} {v : Value} (h : M[a]? = some (.inr (ci, fs))) (h2 : j < fs.length) : mm_pV M a ci j v = some (M.set a (.inr (ci, fs.set j v))) := by
  unfold mm_pV; rw [h]; simp [h2]
theorem ev_aN {M : Mem} {a t n : Nat} {f : (Nat → Int32) ⊕ (Nat → Int64) ⊕ (Nat → UInt32) ⊕ (Nat → UInt64) ⊕ (Nat → Option Nat)} (h : M[a]? = some (.inl (t, n, f))) (ht : t < 5) : mm_aN M a = some (nI n) := by
  unfold mm_aN; rw [h]; simp [ht, nI]
theorem ev_aI {M : Mem} {a t n j : Nat} {f : Nat → Int32} (h : M[a]? = some (.inl (t, n, .inl f))) (hj : j < n) (hn : n < 2 ^ 31) : mm_aI M a t (nI j) = some (f j) := by
  unfold mm_aI; rw [h]
  have h1 := vp_in_nI hj hn
  have h2 : (nI j).toNatClampNeg = j := nI_clamp (by omega)
  dsimp only
  rw [if_pos ⟨rfl, h1⟩, h2]
theorem ev_sI {M : Mem} {a t n j : Nat} {x : Int32} {f : Nat → Int32} (h : M[a]? = some (.inl (t, n, .inl f))) (hj : j < n) (hn : n < 2 ^ 31) : mm_sI M a t (nI j) x = some (M.set a (.inl (t, n, .inl (upd f j x)))) := by
  unfold mm_sI; rw [h]
  have h1 := vp_in_nI hj hn
  have h2 : (nI j).toNatClampNeg = j := nI_clamp (by omega)
  dsimp only
  rw [if_pos ⟨rfl, h1⟩, h2]
theorem ev_aL {M : Mem} {a n j : Nat} {f : Nat → Int64} (h : M[a]? = some (.inl (1, n, .inr (.inl f)))) (hj : j < n) (hn : n < 2 ^ 31) : mm_aL M a (nI j) = some (f j) := by
  unfold mm_aL; rw [h]
  have h1 := vp_in_nI hj hn
  have h2 : (nI j).toNatClampNeg = j := nI_clamp (by omega)
  dsimp only
  rw [if_pos ⟨rfl, h1⟩, h2]
theorem ev_sL {M : Mem} {a n j : Nat} {x : Int64} {f : Nat → Int64} (h : M[a]? = some (.inl (1, n, .inr (.inl f)))) (hj : j < n) (hn : n < 2 ^ 31) : mm_sL M a (nI j) x = some (M.set a (.inl (1, n, .inr (.inl (vp_updL f j x))))) := by
  unfold mm_sL; rw [h]
  have h1 := vp_in_nI hj hn
  have h2 : (nI j).toNatClampNeg = j := nI_clamp (by omega)
  dsimp only
  rw [if_pos ⟨rfl, h1⟩, h2]
theorem st_self {M : Mem} {a : Nat} {e0 e : mE} (h : M[a]? = some e0) : (M.set a e)[a]? = some e := List.getElem?_set_self (List.getElem?_eq_some_iff.mp h).1
theorem st_ne {M : Mem} {a b : Nat} {e : mE} (h : a ≠ b) : (M.set a e)[b]? = M[b]? := List.getElem?_set_ne h
/-- M' differs from M at lo .. hi - 1 alone -/
def Fr (M M' : Mem) (lo hi : Nat) : Prop := M'.length = M.length ∧ ∀ b, (b < lo ∨ hi ≤ b) → M'[b]? = M[b]?
theorem Fr.rf {M : Mem} {lo hi : Nat} : Fr M M lo hi := ⟨rfl, fun _ _ => rfl⟩
theorem Fr.tr {M M' M'' : Mem} {lo hi : Nat} (h1 : Fr M M' lo hi) (h2 : Fr M' M'' lo hi) : Fr M M'' lo hi := ⟨h2.1.trans h1.1, fun b hb => (h2.2 b hb).trans (h1.2 b hb)⟩
theorem Fr.mono {M M' : Mem} {lo hi lo' hi' : Nat} (h : Fr M M' lo hi) (h1 : lo' ≤ lo) (h2 : hi ≤ hi') : Fr M M' lo' hi' := ⟨h.1, fun b hb => h.2 b (by omega)⟩
theorem Fr.set {M : Mem} {a lo hi : Nat} {e : mE} (h1 : lo ≤ a) (h2 : a < hi) : Fr M (M.set a e) lo hi := ⟨List.length_set, fun b hb => st_ne (by omega)⟩
/-- a row at a, of capacity c, that holds the list l -/
def RowAt (M : Mem) (a c : Nat) (l : List Int32) : Prop := ∃ f : Nat → Int32, M[a]? = some (.inr (6, [.ref (a + 1), .int (nI l.length)])) ∧ M[a + 1]? = some (.inl (0, c, .inl f)) ∧ l.length ≤ c ∧ c < 2 ^ 15 ∧ ∀ i, i < l.length → f i = l.getD i 0
theorem RowAt.keep {M M' : Mem} {a c lo hi : Nat} {l : List Int32} (h : RowAt M a c l) (hf : Fr M M' lo hi) (hd : a + 2 ≤ lo ∨ hi ≤ a) : RowAt M' a c l := by
  obtain ⟨f, h1, h2, h3⟩ := h
  exact ⟨f, by rw [hf.2 a (by omega)]; exact h1, by rw [hf.2 (a + 1) (by omega)]; exact h2, h3⟩
def atI (l : List Int32) (x : Int32) : Int32 := if x < 0 then -1 else if nI l.length ≤ x then -1 else l.getD x.toNatClampNeg 0
def hasI (n : Nat) (x : Int32) : Bool := !decide (x < 0) && !decide (nI n ≤ x)
theorem atI_nI {l : List Int32} {j : Nat} (h : j < l.length) (hl : l.length < 2 ^ 31) : atI l (nI j) = l.getD j 0 := by
  unfold atI
  rw [if_neg (nI_pos (by omega)), if_neg (nI_ge h hl), nI_clamp (by omega)]
theorem hasI_nI {n j : Nat} (h : j < n) (hn : n < 2 ^ 31) : hasI n (nI j) = true := by
  unfold hasI
  simp [nI_pos (show j < 2 ^ 31 by omega), nI_ge h hn]
theorem row_size {M : Mem} {a c : Nat} {l : List Int32} (h : RowAt M a c l) : mm_gI M a 6 1 = some (nI l.length) := by
  obtain ⟨f, h1, -⟩ := h
  exact ev_gI h1 rfl
theorem row_ck {M : Mem} {a c : Nat} {l : List Int32} (h : RowAt M a c l) : mm_ck M a 6 = some () := by
  obtain ⟨f, h1, -⟩ := h
  exact ev_ck h1
theorem row_at {N : Nat} {M : Mem} {a c : Nat} {l : List Int32} (h : RowAt M a c l) (x : Int32) : fn_X6_at N M a x = some (atI l x, M) := by
  obtain ⟨f, h1, h2, hl, hc, hf⟩ := h
  unfold fn_X6_at
  rcases pk_ix x (n := l.length) (by omega) with hx | hx | ⟨j, hj, rfl⟩
  · rw [if_pos hx, atI, if_pos hx]
  · by_cases h0 : x < 0
    · rw [if_pos h0, atI, if_pos h0]
    · rw [if_neg h0, ev_gI h1 rfl, Option.bind_some, if_pos hx, atI, if_neg h0, if_pos hx]
  · rw [if_neg (nI_pos (by omega)), ev_gI h1 rfl, Option.bind_some, if_neg (nI_ge hj (by omega)), ev_gR h1 rfl, Option.bind_some, ev_aN h2 (by omega), Option.bind_some, if_neg (nI_ge (by omega) (by omega)), Option.bind_some, ev_aI h2 (by omega) (by omega), Option.bind_some, atI_nI hj (by omega), hf j hj]
theorem row_has {N : Nat} {M : Mem} {a c : Nat} {l : List Int32} (h : RowAt M a c l) (x : Int32) : fn_X6_has N M a x = some (if hasI l.length x then 1 else 0, M) := by
  obtain ⟨f, h1, h2, hl, hc, hf⟩ := h
  unfold fn_X6_has
  rcases pk_ix x (n := l.length) (by omega) with hx | hx | ⟨j, hj, rfl⟩
  · rw [if_pos hx, hasI]; simp [hx]
  · by_cases h0 : x < 0
    · rw [if_pos h0, hasI]; simp [h0]
    · rw [if_neg h0, ev_gI h1 rfl, Option.bind_some, if_pos hx, hasI]; simp [hx]
  · rw [if_neg (nI_pos (by omega)), ev_gI h1 rfl, Option.bind_some, if_neg (nI_ge hj (by omega)), ev_gR h1 rfl, Option.bind_some, ev_aN h2 (by omega), Option.bind_some, if_neg (nI_ge (by omega) (by omega)), hasI_nI hj (by omega)]
    rfl
theorem row_isFull {N : Nat} {M : Mem} {a c : Nat} {l : List Int32} (h : RowAt M a c l) : fn_X6_isFull N M a = some (if l.length < c then 0 else 1, M) := by
  obtain ⟨f, h1, h2, hl, hc, hf⟩ := h
  unfold fn_X6_isFull
  rw [ev_gI h1 rfl, Option.bind_some, ev_gR h1 rfl, Option.bind_some, ev_aN h2 (by omega), Option.bind_some]
  by_cases h3 : l.length < c
  · rw [if_pos (nI_lt h3 (by omega)), if_pos h3]
  · rw [if_neg (nI_nlt (by omega) (by omega)), if_neg h3]
theorem row_empty {N : Nat} {M : Mem} {a c : Nat} {l : List Int32} (h : RowAt M a c l) : ∃ M', fn_X6_empty N M a = some ((), M') ∧ RowAt M' a c [] ∧ Fr M M' a (a + 2) := by
  obtain ⟨f, h1, h2, hl, hc, hf⟩ := h
  unfold fn_X6_empty
  rw [ev_pV h1 (by simp), Option.bind_some]
  exact ⟨_, rfl, ⟨f, st_self h1, by rw [st_ne (by omega)]; exact h2, by simp, hc, fun i hi => absurd hi (by simp)⟩, Fr.set (by omega) (by omega)⟩
theorem row_add {N : Nat} {M : Mem} {a c : Nat} {l : List Int32} (h : RowAt M a c l) (hlt : l.length < c) (x : Int32) : ∃ M', fn_X6_add N M a x = some ((), M') ∧ RowAt M' a c (l ++ [x]) ∧ Fr M M' a (a + 2) := by
  obtain ⟨f, h1, h2, hl, hc, hf⟩ := h
  unfold fn_X6_add
  rw [ev_gI h1 rfl, Option.bind_some, if_neg (nI_pos (by omega)), Option.bind_some, ev_gR h1 rfl, Option.bind_some, ev_aN h2 (by omega), Option.bind_some, if_neg (nI_ge hlt (by omega)), Option.bind_some, Option.bind_some, ev_sI h2 hlt (by omega), Option.bind_some]
  have h3 : (M.set (a + 1) (.inl (0, c, .inl (upd f l.length x))))[a]? = some (.inr (6, [.ref (a + 1), .int (nI l.length)])) := by rw [st_ne (by omega)]; exact h1
  rw [ev_gI h3 rfl, Option.bind_some, ev_pV h3 (by simp), Option.bind_some]
  refine ⟨_, rfl, ⟨upd f l.length x, ?_, ?_, by simp; omega, hc, fun i hi => ?_⟩, (Fr.set (by omega) (by omega)).tr (Fr.set (by omega) (by omega))⟩
  · rw [st_self h3]; simp [nI_succ]
  · rw [st_ne (by omega), st_self h2]
  · simp only [List.length_append, List.length_singleton] at hi
    by_cases he : i = l.length
    · subst he; rw [pk_us]; simp
    · rw [pk_un he, hf i (by omega)]; simp [List.getD_eq_getElem?_getD, List.getElem?_append_left (show i < l.length by omega)]
theorem row_addF {N : Nat} {M : Mem} {a c : Nat} {l : List Int32} (h : RowAt M a c l) (hlt : l.length = c) (x : Int32) : fn_X6_add N M a x = some ((), M) := by
  obtain ⟨f, h1, h2, hl, hc, hf⟩ := h
  unfold fn_X6_add
  rw [ev_gI h1 rfl, Option.bind_some, if_neg (nI_pos (by omega)), Option.bind_some, ev_gR h1 rfl, Option.bind_some, ev_aN h2 (by omega), Option.bind_some, if_pos (by rw [hlt]; exact Int32.le_refl _)]
theorem row_put {N : Nat} {M : Mem} {a c j : Nat} {l : List Int32} (h : RowAt M a c l) (hj : j < l.length) (x : Int32) : ∃ M', fn_X6_put N M a (nI j) x = some ((), M') ∧ RowAt M' a c (l.set j x) ∧ Fr M M' a (a + 2) := by
  have hh := row_has (N := N) h (nI j)
  have hk := row_ck h
  obtain ⟨f, h1, h2, hl, hc, hf⟩ := h
  unfold fn_X6_put
  rw [hk, Option.bind_some, hh, hasI_nI hj (by omega)]
  simp only [mm_b2, if_true, if_neg (show ¬ (1 : Int32) = 0 by decide)]
  rw [ev_gR h1 rfl, Option.bind_some, ev_sI h2 (by omega) (by omega), Option.bind_some]
  refine ⟨_, rfl, ⟨upd f j x, ?_, st_self h2, by simpa using hl, hc, fun i hi => ?_⟩, Fr.set (by omega) (by omega)⟩
  · rw [st_ne (by omega)]; simpa using h1
  · simp only [List.length_set] at hi
    by_cases he : i = j
    · subst he; rw [pk_us]; simp [hi]
    · rw [pk_un he, hf i hi]; simp [List.getD_eq_getElem?_getD, List.getElem?_set_ne (Ne.symm he)]
theorem row_inc {N : Nat} {M : Mem} {a c j : Nat} {l : List Int32} (h : RowAt M a c l) (hj : j < l.length) (x : Int32) : ∃ M', fn_X6_increase N M a (nI j) x = some ((), M') ∧ RowAt M' a c (l.set j (l.getD j 0 + x)) ∧ Fr M M' a (a + 2) := by
  have hh := row_has (N := N) h (nI j)
  have hk := row_ck h
  obtain ⟨f, h1, h2, hl, hc, hf⟩ := h
  unfold fn_X6_increase
  rw [hk, Option.bind_some, hh, hasI_nI hj (by omega)]
  simp only [mm_b2, if_true, if_neg (show ¬ (1 : Int32) = 0 by decide)]
  rw [ev_gR h1 rfl, Option.bind_some, ev_aI h2 (by omega) (by omega), Option.bind_some, ev_sI h2 (by omega) (by omega), Option.bind_some]
  refine ⟨_, rfl, ⟨upd f j (f j + x), ?_, st_self h2, by simpa using hl, hc, fun i hi => ?_⟩, Fr.set (by omega) (by omega)⟩
  · rw [st_ne (by omega)]; simpa using h1
  · simp only [List.length_set] at hi
    by_cases he : i = j
    · subst he; rw [pk_us, hf i hi]; simp [hi]
    · rw [pk_un he, hf i hi]; simp [List.getD_eq_getElem?_getD, List.getElem?_set_ne (Ne.symm he)]
theorem row_incF {N : Nat} {M : Mem} {a c : Nat} {l : List Int32} (h : RowAt M a c l) {x : Int32} (hx : hasI l.length x = false) (y : Int32) : fn_X6_increase N M a x y = some ((), M) := by
  have hh := row_has (N := N) h x
  unfold fn_X6_increase
  rw [row_ck h, Option.bind_some, hh, hx]
  rfl
theorem row_copy {N : Nat} {M : Mem} {a b c d : Nat} {l l' : List Int32} (h : RowAt M a c l) (h' : RowAt M b d l') (hcd : l'.length ≤ c) (hab : a + 2 ≤ b ∨ b + 2 ≤ a) : ∃ M', fn_X6_copyFrom N M a b = some ((), M') ∧ RowAt M' a c l' ∧ Fr M M' a (a + 2) := by
  obtain ⟨f, h1, h2, hl, hc, hf⟩ := h
  obtain ⟨g, g1, g2, gl, gc, gf⟩ := h'
  unfold fn_X6_copyFrom
  rw [ev_gI g1 rfl, Option.bind_some, ev_gR g1 rfl, Option.bind_some, ev_aN g2 (by omega), Option.bind_some, ev_gR h1 rfl, Option.bind_some, ev_aN h2 (by omega), Option.bind_some]
  have e2 : (if (if nI c < nI d then nI c else nI d) < nI l'.length then (if nI c < nI d then nI c else nI d) else nI l'.length) = nI l'.length := by
    rw [if_neg]
    split
    · exact nI_nlt (by omega) (by omega)
    · exact nI_nlt (by omega) (by omega)
  have e3 : (if (0 : Int32) < nI l'.length then nI l'.length else 0) = nI l'.length := by
    split
    · rfl
    · rename_i hn
      have : l'.length = 0 := by
        apply Nat.eq_zero_of_not_pos
        intro hp
        exact hn (by have := nI_lt hp (show l'.length < 2 ^ 31 by omega); rwa [nI_0] at this)
      rw [this]; rfl
  simp only [mm_lt, e2, e3]
  rw [ev_pV h1 (by simp), Option.bind_some]
  have k1 : (M.set a (.inr (6, [Value.ref (a + 1), .int (nI l.length)].set 1 (.int (nI l'.length)))))[a]? = some (.inr (6, [.ref (a + 1), .int (nI l'.length)])) := st_self h1
  have k2 : (M.set a (.inr (6, [Value.ref (a + 1), .int (nI l.length)].set 1 (.int (nI l'.length)))))[b]? = some (.inr (6, [.ref (b + 1), .int (nI l'.length)])) := by rw [st_ne (by omega)]; exact g1
  have k3 : (M.set a (.inr (6, [Value.ref (a + 1), .int (nI l.length)].set 1 (.int (nI l'.length)))))[a + 1]? = some (.inl (0, c, .inl f)) := by rw [st_ne (by omega)]; exact h2
  have k4 : (M.set a (.inr (6, [Value.ref (a + 1), .int (nI l.length)].set 1 (.int (nI l'.length)))))[b + 1]? = some (.inl (0, d, .inl g)) := by rw [st_ne (by omega)]; exact g2
  rw [ev_gR k2 rfl, Option.bind_some, ev_gR k1 rfl, Option.bind_some, ev_gI k1 rfl, Option.bind_some]
  have hn : (nI l'.length).toNatClampNeg = l'.length := nI_clamp (by omega)
  have k5 : mm_cp (M.set a (.inr (6, [Value.ref (a + 1), .int (nI l.length)].set 1 (.int (nI l'.length))))) (b + 1) 0 (a + 1) 0 (nI l'.length) = some ((M.set a (.inr (6, [Value.ref (a + 1), .int (nI l.length)].set 1 (.int (nI l'.length))))).set (a + 1) (.inl (0, c, .inl (va_cpy g f 0 0 l'.length)))) := by
    unfold mm_cp
    rw [k3, k4]
    dsimp only
    rw [hn]
    rw [if_pos]
    · rfl
    · refine ⟨rfl, rfl, by decide, by decide, nI_pos (by omega), ?_, ?_⟩
      · show 0 + l'.length ≤ d; omega
      · show 0 + l'.length ≤ c; omega
  rw [k5, Option.bind_some]
  refine ⟨_, rfl, ⟨va_cpy g f 0 0 l'.length, ?_, st_self k3, hcd, hc, fun i hi => ?_⟩, (Fr.set (by omega) (by omega)).tr (Fr.set (by omega) (by omega))⟩
  · rw [st_ne (by omega)]; exact k1
  · rw [pk_cpy_in (by omega) (by omega)]
    simpa using gf i hi
