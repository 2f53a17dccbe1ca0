/-! PURE: the undo history -/
theorem fm12 : ∀ q, q < 24 → (0 : Int32) ≤ nI q ^^^ 12 := by decide
theorem ev_fm {N : Nat} {M : Mem} {q : Nat} (hq : q < 24) : fn_J9_floorMod_7cf53 N M (nI q) 12 = some (nI (q % 12), M) := by
  unfold fn_J9_floorMod_7cf53 mm_rI
  rw [if_neg (by decide), Option.bind_some, if_pos (fm12 q hq), show (12 : Int32) = nI 12 from rfl, pk_rem (by omega) (by omega) (by omega)]
theorem ev_aR {M : Mem} {a n j v : Nat} {f : Nat → Option Nat} (h : M[a]? = some (.inl (4, n, .inr (.inr (.inr (.inr f)))))) (hj : j < n) (hn : n < 2 ^ 31) (hv : f j = some v) : mm_aR M a (nI j) = some v := by
  unfold mm_aR; rw [h]
  have h1 := vp_in_nI hj hn
  have h2 : (nI j).toNatClampNeg = j := nI_clamp (by omega)
  dsimp only
  rw [if_pos ⟨rfl, h1⟩, h2, hv]
/-- the history at 79: the undo list, the latest first -/
def HiAt (M : Mem) (U : List St) : Prop := ∃ (old : Nat) (hs : Nat → St) (f : Nat → Option Nat), M[79]? = some (.inr (1, [.ref 80, .int (nI old), .int (nI U.length)])) ∧ M[80]? = some (.inl (4, 12, .inr (.inr (.inr (.inr f))))) ∧ (∀ j, j < 12 → f j = some (81 + 21 * j)) ∧ (∀ j, j < 12 → StAt M (81 + 21 * j) (hs j)) ∧ old < 12 ∧ U.length ≤ 12 ∧ ∀ i, i < U.length → U[i]? = some (hs ((old + U.length - 1 - i) % 12))
theorem HiAt.keep {M M' : Mem} {lo hi : Nat} {U : List St} (h : HiAt M U) (hf : Fr M M' lo hi) (hd : 333 ≤ lo ∨ hi ≤ 79) : HiAt M' U := by
  obtain ⟨old, hs, f, h1, h2, h3, h4, h5⟩ := h
  exact ⟨old, hs, f, by rw [hf.2 79 (by omega)]; exact h1, by rw [hf.2 80 (by omega)]; exact h2, h3, fun j hj => (h4 j hj).keep hf (by omega), h5⟩
theorem HiAt.cnt {M : Mem} {U : List St} (h : HiAt M U) : mm_gI M 79 1 2 = some (nI U.length) := by
  obtain ⟨old, hs, f, h1, h2⟩ := h
  exact ev_gI h1 rfl
theorem HiAt.ck {M : Mem} {U : List St} (h : HiAt M U) : mm_ck M 79 1 = some () := by
  obtain ⟨old, hs, f, h1, h2⟩ := h
  exact ev_ck h1
theorem hi_forget {N : Nat} {M : Mem} {U : List St} (h : HiAt M U) : ∃ M', fn_X1_forget N M 79 = some ((), M') ∧ HiAt M' [] ∧ Fr M M' 79 333 := by
  obtain ⟨old, hs, f, h1, h2, h3, h4, h5, h6, h7⟩ := h
  unfold fn_X1_forget
  rw [ev_pV h1 (by simp), Option.bind_some]
  have hf : Fr M (M.set 79 (.inr (1, [Value.ref 80, .int (nI old), .int (nI U.length)].set 2 (.int 0)))) 79 80 := Fr.set (by omega) (by omega)
  exact ⟨_, rfl, ⟨old, hs, f, st_self h1, by rw [hf.2 80 (by omega)]; exact h2, h3, fun j hj => (h4 j hj).keep hf (by omega), h5, by simp, fun i hi => absurd hi (by simp)⟩, hf.mono (by omega) (by omega)⟩
/-- the list of the latest twelve -/
def pushU (σ : St) (U : List St) : List St := (σ :: U).take 12
theorem hi_push {N : Nat} {M : Mem} {U : List St} {s : Nat} {σ : St} (h : HiAt M U) (hs' : StAt M s σ) (hd : s + 21 ≤ 79 ∨ 333 ≤ s) : ∃ M', fn_X1_push N M 79 s = some ((), M') ∧ HiAt M' (pushU σ U) ∧ Fr M M' 79 333 := by
  obtain ⟨old, hs, f, h1, h2, h3, h4, h5, h6, h7⟩ := h
  unfold fn_X1_push
  have hm : (old + U.length) % 12 < 12 := Nat.mod_lt _ (by decide)
  rw [ev_gR h1 rfl, Option.bind_some, ev_gI h1 rfl, Option.bind_some, ev_gI h1 rfl, Option.bind_some, nI_add, ev_fm (by omega)]
  simp only [mm_b2]
  rw [ev_aR h2 hm (by decide) (h3 _ hm), Option.bind_some, (h4 _ hm).ck, Option.bind_some]
  obtain ⟨M1, e1, s1, f1⟩ := st_copy (N := N) (h4 _ hm) hs' (by omega)
  rw [e1]
  simp only
  have k1 : M1[79]? = some (.inr (1, [.ref 80, .int (nI old), .int (nI U.length)])) := by rw [f1.2 79 (by omega)]; exact h1
  have k2 : M1[80]? = some (.inl (4, 12, .inr (.inr (.inr (.inr f))))) := by rw [f1.2 80 (by omega)]; exact h2
  have k4 : ∀ j, j < 12 → StAt M1 (81 + 21 * j) (va_up hs ((old + U.length) % 12) σ j) := fun j hj => by
    by_cases he : j = (old + U.length) % 12
    · subst he; simp only [va_up, if_true]; exact s1
    · simp only [va_up, if_neg he]; exact (h4 j hj).keep f1 (by omega)
  rw [ev_gI k1 rfl, Option.bind_some]
  by_cases hc : U.length = 12
  · rw [if_pos (by rw [hc]; decide), ev_gI k1 rfl, Option.bind_some]
    have e3 : mm_rI (nI old + 1) 12 = some (nI ((old + 1) % 12)) := by
      unfold mm_rI
      rw [if_neg (by decide), nI_1, show (12 : Int32) = nI 12 from rfl, pk_rem (by omega) (by omega) (by omega)]
    rw [e3, Option.bind_some, ev_pV k1 (by simp), Option.bind_some]
    have hf : Fr M1 (M1.set 79 (.inr (1, [Value.ref 80, .int (nI old), .int (nI U.length)].set 1 (.int (nI ((old + 1) % 12)))))) 79 80 := Fr.set (by omega) (by omega)
    have hlen : (pushU σ U).length = 12 := by simp [pushU]; omega
    refine ⟨_, rfl, ⟨(old + 1) % 12, va_up hs ((old + U.length) % 12) σ, f, ?_, by rw [hf.2 80 (by omega)]; exact k2, h3, fun j hj => (k4 j hj).keep hf (by omega), Nat.mod_lt _ (by decide), by omega, fun i hi => ?_⟩, (f1.mono (by omega) (by omega)).tr (hf.mono (by omega) (by omega))⟩
    · rw [st_self k1, hlen, hc]; rfl
    · rw [hlen] at hi ⊢
      unfold pushU
      rw [List.getElem?_take_of_lt hi]
      cases i with
      | zero =>
        rw [List.getElem?_cons_zero]
        simp only [va_up]
        rw [if_pos (by omega)]
      | succ i =>
        rw [List.getElem?_cons_succ, h7 i (by omega)]
        simp only [va_up]
        rw [if_neg (by omega)]
        congr 2
        omega
  · rw [if_neg (show ¬ (12 : Int32) ≤ nI U.length from nI_ge (show U.length < 12 by omega) (by decide)), Option.bind_some, ev_pV k1 (by simp), Option.bind_some]
    have hf : Fr M1 (M1.set 79 (.inr (1, [Value.ref 80, .int (nI old), .int (nI U.length)].set 2 (.int (nI U.length + 1))))) 79 80 := Fr.set (by omega) (by omega)
    have hlen : (pushU σ U).length = U.length + 1 := by simp [pushU]; omega
    refine ⟨_, rfl, ⟨old, va_up hs ((old + U.length) % 12) σ, f, ?_, by rw [hf.2 80 (by omega)]; exact k2, h3, fun j hj => (k4 j hj).keep hf (by omega), h5, by omega, fun i hi => ?_⟩, (f1.mono (by omega) (by omega)).tr (hf.mono (by omega) (by omega))⟩
    · rw [st_self k1, hlen, nI_succ]; rfl
    · rw [hlen] at hi ⊢
      unfold pushU
      rw [List.getElem?_take_of_lt (by omega)]
      cases i with
      | zero =>
        rw [List.getElem?_cons_zero]
        simp only [va_up]
        rw [if_pos (by omega)]
      | succ i =>
        rw [List.getElem?_cons_succ, h7 i (by omega)]
        simp only [va_up]
        rw [if_neg (by omega)]
        congr 2
        omega
theorem hi_pop0 {N : Nat} {M : Mem} {s : Nat} (h : HiAt M []) : fn_X1_pop N M 79 s = some (0, M) := by
  unfold fn_X1_pop
  rw [h.cnt, Option.bind_some, if_pos (show nI ([] : List St).length = 0 from rfl)]
theorem hi_pop {N : Nat} {M : Mem} {σ τ : St} {U : List St} {s : Nat} (h : HiAt M (τ :: U)) (hs' : StAt M s σ) (hd : s + 21 ≤ 79 ∨ 333 ≤ s) : ∃ M', fn_X1_pop N M 79 s = some (1, M') ∧ HiAt M' U ∧ StAt M' s τ ∧ M'.length = M.length ∧ ∀ b, (b < 79 ∨ 333 ≤ b) → (b < s ∨ s + 21 ≤ b) → M'[b]? = M[b]? := by
  obtain ⟨old, hs, f, h1, h2, h3, h4, h5, h6, h7⟩ := h
  simp only [List.length_cons] at h1 h6 h7
  unfold fn_X1_pop
  rw [ev_gI h1 rfl, Option.bind_some, if_neg (nI_ne0 (by omega) (by omega)), Option.bind_some, nI_pred, ev_pV h1 (by simp), Option.bind_some]
  have hf : Fr M (M.set 79 (.inr (1, [Value.ref 80, .int (nI old), .int (nI (U.length + 1))].set 2 (.int (nI U.length))))) 79 80 := Fr.set (by omega) (by omega)
  have k1 : (M.set 79 (.inr (1, [Value.ref 80, .int (nI old), .int (nI (U.length + 1))].set 2 (.int (nI U.length)))))[79]? = some (.inr (1, [.ref 80, .int (nI old), .int (nI U.length)])) := st_self h1
  generalize M.set 79 (.inr (1, [Value.ref 80, .int (nI old), .int (nI (U.length + 1))].set 2 (.int (nI U.length)))) = M1 at hf k1 ⊢
  have k2 : M1[80]? = some (.inl (4, 12, .inr (.inr (.inr (.inr f))))) := by rw [hf.2 80 (by omega)]; exact h2
  have hm : (old + U.length) % 12 < 12 := Nat.mod_lt _ (by decide)
  rw [ev_gR k1 rfl, Option.bind_some, ev_gI k1 rfl, Option.bind_some, ev_gI k1 rfl, Option.bind_some, nI_add, ev_fm (by omega)]
  simp only [mm_b2]
  have g4 : ∀ j, j < 12 → StAt M1 (81 + 21 * j) (hs j) := fun j hj => (h4 j hj).keep hf (by omega)
  have gs : StAt M1 s σ := hs'.keep hf (by omega)
  rw [ev_aR k2 hm (by decide) (h3 _ hm), Option.bind_some, gs.ck, Option.bind_some]
  obtain ⟨M2, e2, s2, f2⟩ := st_copy (N := N) gs (g4 _ hm) (by omega)
  rw [e2]
  simp only
  have ht : τ = hs ((old + U.length) % 12) := by
    have := h7 0 (by omega)
    rw [List.getElem?_cons_zero] at this
    have e9 := Option.some.inj this
    rw [e9]
    congr 1
  refine ⟨M2, rfl, ⟨old, hs, f, by rw [f2.2 79 (by omega)]; exact k1, by rw [f2.2 80 (by omega)]; exact k2, h3, fun j hj => (g4 j hj).keep f2 (by omega), h5, by omega, fun i hi => ?_⟩, by rw [ht]; exact s2, by rw [f2.1, hf.1], fun b hb1 hb2 => by rw [f2.2 b (by omega), hf.2 b (by omega)]⟩
  have := h7 (i + 1) (by omega)
  rw [List.getElem?_cons_succ] at this
  rw [this]
  congr 2
  omega
