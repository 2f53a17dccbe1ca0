/-! PURE: bins, loop, the next outcome: what both answer; the class's side -/
def needI (κ : Cf) (σ : St) (b : Nat) : Int32 := (κ.2 11).getD b 0 - (σ.2 2).getD b 0
def rmS (κ : Cf) (σ : St) (t : Int32) : Nat → Int32
  | 0 => -2
  | k + 1 => if (κ.2 10).getD k 0 = t then (if needI κ σ k ≤ 0 then rmS κ σ t k else if rmS κ σ t k < 0 then nI k else if needI κ σ (rmS κ σ t k).toNatClampNeg ≤ needI κ σ k then rmS κ σ t k else nI k) else rmS κ σ t k
/-- the bin that a coin of this type goes to, or -2 -/
def rmI (κ : Cf) (σ : St) (t : Int32) : Int32 := rmS κ σ t (κ.2 10).length
def nlN (κ : Cf) (σ : St) : Nat → Option Nat
  | 0 => none
  | r + 1 => if rmI κ σ ((σ.2 1).getD ((σ.2 1).length - (r + 1)) 0) < 0 then nlN κ σ r else some ((σ.2 1).length - (r + 1))
/-- the oldest coin of the loop that a bin can take -/
def nlI (κ : Cf) (σ : St) : Option Nat := nlN κ σ (σ.2 1).length
def hbN (κ : Cf) (t : Int32) : Nat → Bool
  | 0 => false
  | r + 1 => if (κ.2 10).getD ((κ.2 10).length - (r + 1)) 0 = t then true else hbN κ t r
def hbI (κ : Cf) (t : Int32) : Bool := hbN κ t (κ.2 10).length
def nvI (κ : Cf) (σ : St) (c : Int32) : Int32 := vdI κ (c / 10000 + σ.1 0) (c - c / 10000 * 10000 + σ.1 1) (σ.1 2)
/-- the next outcome; 30: stopped -/
def nxI (κ : Cf) (σ : St) : Int32 := if σ.1 3 = 1 then -2 else match nlI κ σ with
  | some k => rmI κ σ ((σ.2 1).getD k 0)
  | none => if (σ.2 0).length = 0 then -2 else if (σ.2 0).getD 0 0 / 10000 ≤ κ.1 0 then (if nvI κ σ ((σ.2 0).getD 0 0) < 21 then (if hbI κ (nvI κ σ ((σ.2 0).getD 0 0)) then (if rmI κ σ (nvI κ σ ((σ.2 0).getD 0 0)) < 0 then (if κ.1 1 ≤ nI (σ.2 1).length then 30 else 20) else rmI κ σ (nvI κ σ ((σ.2 0).getD 0 0))) else 23) else nvI κ σ ((σ.2 0).getD 0 0)) else 24
def nlv : Option Nat → Int32
  | some j => nI j
  | none => -2
theorem nxI_jam {κ : Cf} {σ : St} (h : σ.1 3 = 1) : nxI κ σ = -2 := by
  unfold nxI
  rw [if_pos h]
theorem nxI_some {κ : Cf} {σ : St} {k : Nat} (h : ¬ σ.1 3 = 1) (hn : nlI κ σ = some k) : nxI κ σ = rmI κ σ ((σ.2 1).getD k 0) := by
  unfold nxI
  rw [if_neg h, hn]
theorem nxI_none {κ : Cf} {σ : St} (h : ¬ σ.1 3 = 1) (hn : nlI κ σ = none) : nxI κ σ = if (σ.2 0).length = 0 then -2 else if (σ.2 0).getD 0 0 / 10000 ≤ κ.1 0 then (if nvI κ σ ((σ.2 0).getD 0 0) < 21 then (if hbI κ (nvI κ σ ((σ.2 0).getD 0 0)) then (if rmI κ σ (nvI κ σ ((σ.2 0).getD 0 0)) < 0 then (if κ.1 1 ≤ nI (σ.2 1).length then 30 else 20) else rmI κ σ (nvI κ σ ((σ.2 0).getD 0 0))) else 23) else nvI κ σ ((σ.2 0).getD 0 0)) else 24 := by
  unfold nxI
  rw [if_neg h, hn]
theorem rmS_form (κ : Cf) (σ : St) (t : Int32) : ∀ k, rmS κ σ t k = -2 ∨ ∃ j, j < k ∧ rmS κ σ t k = nI j ∧ (κ.2 10).getD j 0 = t ∧ ¬ needI κ σ j ≤ 0 := by
  intro k
  induction k with
  | zero => exact Or.inl rfl
  | succ k ih =>
    rw [rmS]
    have ih' : rmS κ σ t k = -2 ∨ ∃ j, j < k + 1 ∧ rmS κ σ t k = nI j ∧ (κ.2 10).getD j 0 = t ∧ ¬ needI κ σ j ≤ 0 := by
      rcases ih with h | ⟨j, h1, h2⟩
      · exact Or.inl h
      · exact Or.inr ⟨j, by omega, h2⟩
    split
    · rename_i ht
      split
      · exact ih'
      · rename_i hn
        split
        · exact Or.inr ⟨k, by omega, rfl, ht, hn⟩
        · split
          · exact ih'
          · exact Or.inr ⟨k, by omega, rfl, ht, hn⟩
    · exact ih'
theorem rmI_form (κ : Cf) (σ : St) (t : Int32) (w : (κ.2 10).length ≤ 8) : (rmI κ σ t < 0 ∧ rmI κ σ t = -2) ∨ ∃ j, j < (κ.2 10).length ∧ rmI κ σ t = nI j ∧ (κ.2 10).getD j 0 = t ∧ ¬ needI κ σ j ≤ 0 ∧ ¬ rmI κ σ t < 0 := by
  rcases rmS_form κ σ t (κ.2 10).length with h | ⟨j, h1, h2, h3⟩
  · refine Or.inl ⟨?_, h⟩
    unfold rmI
    rw [h]
    decide
  · refine Or.inr ⟨j, h1, h2, h3.1, h3.2, ?_⟩
    unfold rmI
    rw [h2]
    exact nI_pos (by omega)
theorem nlN_some {κ : Cf} {σ : St} {k : Nat} : ∀ r, r ≤ (σ.2 1).length → nlN κ σ r = some k → k < (σ.2 1).length ∧ ¬ rmI κ σ ((σ.2 1).getD k 0) < 0 := by
  intro r
  induction r with
  | zero => intro _ h; cases h
  | succ r ih =>
    intro hr h
    rw [nlN] at h
    split at h
    · exact ih (by omega) h
    · rename_i hn
      cases h
      exact ⟨by omega, hn⟩
section XM
variable {N : Nat} {M M' : Mem} {bf : List Int32} {κ : Cf} {σ : St} {U : List St} {sn : Nat → Option St}
theorem x_room (h : XAt M bf κ σ U sn) (w : WFK κ) (ws : WFS κ σ) (t : Int32) : ∀ (m k : Nat) (f : Int32), k ≤ (κ.2 10).length → (κ.2 10).length - k < m → (¬ rmS κ σ t k < 0 → f = needI κ σ (rmS κ σ t k).toNatClampNeg) →
    fn_X9_binFor_18 N m M 0 t (rmS κ σ t k) f (nI k) = some (rmI κ σ t, M) := by
  obtain ⟨cf, c1, hC, c2⟩ := h.cfg
  obtain ⟨s1, hS⟩ := h.st
  have hb := w.1.2.2.2.2.1
  have he := w.1.2.2.2.2.2
  have hs := ws.1
  intro m
  induction m with
  | zero => intro k _ _ h; omega
  | succ m ih =>
    intro k f hk hm hf
    rw [fn_X9_binFor_18.eq_2]
    simp only [c1, hC.ty, hC.fk, hC.bt, hC.bs, hC.i0, hC.i1, hC.i2, hC.ct, hC.cf, fn_X3_count, hC.t0, hC.t1, hC.t2, hC.t3, hC.t4, hC.f0, hC.f1, hC.f2, hC.f3, hC.f4, row_size hC.r0, row_ck hC.r0, row_at hC.r0, row_has hC.r0, row_size hC.r1, row_ck hC.r1, row_at hC.r1, row_has hC.r1, row_size hC.r2, row_ck hC.r2, row_at hC.r2, row_has hC.r2, row_size hC.r3, row_ck hC.r3, row_at hC.r3, row_has hC.r3, row_size hC.r4, row_ck hC.r4, row_at hC.r4, row_has hC.r4, row_size hC.r5, row_ck hC.r5, row_at hC.r5, row_has hC.r5, row_size hC.r6, row_ck hC.r6, row_at hC.r6, row_has hC.r6, row_size hC.r7, row_ck hC.r7, row_at hC.r7, row_has hC.r7, row_size hC.r8, row_ck hC.r8, row_at hC.r8, row_has hC.r8, row_size hC.r9, row_ck hC.r9, row_at hC.r9, row_has hC.r9, row_size hC.r10, row_ck hC.r10, row_at hC.r10, row_has hC.r10, row_size hC.r11, row_ck hC.r11, row_at hC.r11, row_has hC.r11, s1, hS.ck, hS.gI (show 0 < 5 by decide), hS.gI (show 1 < 5 by decide), hS.gI (show 2 < 5 by decide), hS.gI (show 3 < 5 by decide), hS.gI (show 4 < 5 by decide), hS.g0, row_size hS.r0, row_ck hS.r0, row_at hS.r0, row_has hS.r0, row_isFull hS.r0, hS.g1, row_size hS.r1, row_ck hS.r1, row_at hS.r1, row_has hS.r1, row_isFull hS.r1, hS.g2, row_size hS.r2, row_ck hS.r2, row_at hS.r2, row_has hS.r2, row_isFull hS.r2, hS.g3, row_size hS.r3, row_ck hS.r3, row_at hS.r3, row_has hS.r3, row_isFull hS.r3, hS.g4, row_size hS.r4, row_ck hS.r4, row_at hS.r4, row_has hS.r4, row_isFull hS.r4, hS.g5, row_size hS.r5, row_ck hS.r5, row_at hS.r5, row_has hS.r5, row_isFull hS.r5, hS.g6, row_size hS.r6, row_ck hS.r6, row_at hS.r6, row_has hS.r6, row_isFull hS.r6, hS.g7, row_size hS.r7, row_ck hS.r7, row_at hS.r7, row_has hS.r7, row_isFull hS.r7, hS.g8, row_size hS.r8, row_ck hS.r8, row_at hS.r8, row_has hS.r8, row_isFull hS.r8, hS.g9, row_size hS.r9, row_ck hS.r9, row_at hS.r9, row_has hS.r9, row_isFull hS.r9, h.ck, obs, b2s]
    by_cases hke : k = (κ.2 10).length
    · subst hke
      rw [if_pos (Int32.le_refl _)]
      rfl
    · rw [if_neg (nI_ge (by omega) (by omega)), atI_nI (by omega) (by omega), atI_nI (by omega) (by omega), atI_nI (by omega) (by omega)]
      simp only [fn_X9_binFor_99, fn_X9_binFor_93, nI_1]
      have hd : (κ.2 11).getD k 0 - (σ.2 2).getD k 0 = needI κ σ k := rfl
      rw [hd]
      have hr : rmS κ σ t (k + 1) = if (κ.2 10).getD k 0 = t then (if needI κ σ k ≤ 0 then rmS κ σ t k else if rmS κ σ t k < 0 then nI k else if needI κ σ (rmS κ σ t k).toNatClampNeg ≤ needI κ σ k then rmS κ σ t k else nI k) else rmS κ σ t k := rfl
      have step := fun f' hf' => ih (k + 1) f' (by omega) (by omega) hf'
      by_cases e1 : (κ.2 10).getD k 0 = t
      · rw [if_pos e1] at hr ⊢
        by_cases e2 : needI κ σ k ≤ 0
        · rw [if_pos e2] at hr ⊢
          rw [← hr]
          exact step f (by rw [hr]; exact hf)
        · rw [if_neg e2] at hr ⊢
          have hw : ¬ nI k < 0 → needI κ σ k = needI κ σ (nI k).toNatClampNeg := fun _ => by rw [nI_clamp (by omega)]
          rcases rmS_form κ σ t k with e3 | ⟨j, j1, j2, j3, j4⟩
          · have e4 : rmS κ σ t k < 0 := by rw [e3]; decide
            rw [if_pos e4] at hr
            rw [if_pos e3, ← hr]
            exact step _ (by rw [hr]; exact hw)
          · have e4 : ¬ rmS κ σ t k < 0 := by rw [j2]; exact nI_pos (by omega)
            have e5 : ¬ rmS κ σ t k = -2 := by intro q; rw [q] at e4; exact e4 (by decide)
            rw [if_neg e4] at hr
            rw [if_neg e5, hf e4]
            by_cases e6 : needI κ σ (rmS κ σ t k).toNatClampNeg ≤ needI κ σ k
            · rw [if_pos e6] at hr ⊢
              rw [← hr]
              exact step _ (by rw [hr]; exact fun _ => rfl)
            · rw [if_neg e6] at hr ⊢
              rw [← hr]
              exact step _ (by rw [hr]; exact hw)
      · rw [if_neg e1] at hr ⊢
        rw [← hr]
        exact step f (by rw [hr]; exact hf)
theorem x_binFor (h : XAt M bf κ σ U sn) (hN : 2 ^ 15 ≤ N) (w : WFK κ) (ws : WFS κ σ) (t : Int32) : fn_X9_binFor N M 0 t = some (if hasI (κ.2 0).length t then rmI κ σ t else -1, M) := by
  have hb := w.1.2.2.2.2.1
  unfold fn_X9_binFor
  rw [h.ck, Option.bind_some, x_isType h, b2s]
  have e := x_room (N := N) h w ws t N 0 0 (by omega) (by omega) (fun q => absurd (show (-2 : Int32) < 0 by decide) q)
  rw [nI_0] at e
  by_cases hx : hasI (κ.2 0).length t = true
  · simp only [if_pos hx]
    rw [if_neg (by decide)]
    exact e
  · simp only [if_neg hx]
    rw [if_pos trivial]
theorem x_hasBin (h : XAt M bf κ σ U sn) (w : WFK κ) (t : Int32) : ∀ (m k : Nat), k ≤ (κ.2 10).length → (κ.2 10).length - k < m → fn_X9_hasBin_2 N m M 0 t (nI k) = some (if hbN κ t ((κ.2 10).length - k) then 1 else 0, M) := by
  obtain ⟨cf, c1, hC, c2⟩ := h.cfg
  have hb := w.1.2.2.2.2.1
  intro m
  induction m with
  | zero => intro k _ h; omega
  | succ m ih =>
    intro k hk hm
    rw [fn_X9_hasBin_2.eq_2]
    simp only [c1, hC.bt, row_size hC.r10, row_ck hC.r10, row_at hC.r10, Option.bind_some, b2s]
    by_cases hke : k = (κ.2 10).length
    · subst hke
      rw [if_pos (Int32.le_refl _), Nat.sub_self]
      rfl
    · obtain ⟨r, hr⟩ : ∃ r, (κ.2 10).length - k = r + 1 := ⟨(κ.2 10).length - k - 1, by omega⟩
      rw [if_neg (nI_ge (by omega) (by omega)), atI_nI (by omega) (by omega), nI_1, ih (k + 1) (by omega) (by omega), hr, hbN, show (κ.2 10).length - (r + 1) = k by omega, show (κ.2 10).length - (k + 1) = r by omega]
      split <;> rfl
theorem x_nextIn (h : XAt M bf κ σ U sn) (hN : 2 ^ 15 ≤ N) (w : WFK κ) (ws : WFS κ σ) : ∀ (m k : Nat), k ≤ (σ.2 1).length → (σ.2 1).length - k < m → fn_X9_nextInLoop_2 N m M 0 (nI k) = some (nlv (nlN κ σ ((σ.2 1).length - k)), M) := by
  obtain ⟨cf, c1, hC, c2⟩ := h.cfg
  obtain ⟨s1, hS⟩ := h.st
  have hb := w.1.1
  have hl := (row_len hS.r1).1
  intro m
  induction m with
  | zero => intro k _ h; omega
  | succ m ih =>
    intro k hk hm
    rw [fn_X9_nextInLoop_2.eq_2]
    simp only [c1, hC.ty, hC.fk, hC.bt, hC.bs, hC.i0, hC.i1, hC.i2, hC.ct, hC.cf, fn_X3_count, hC.t0, hC.t1, hC.t2, hC.t3, hC.t4, hC.f0, hC.f1, hC.f2, hC.f3, hC.f4, row_size hC.r0, row_ck hC.r0, row_at hC.r0, row_has hC.r0, row_size hC.r1, row_ck hC.r1, row_at hC.r1, row_has hC.r1, row_size hC.r2, row_ck hC.r2, row_at hC.r2, row_has hC.r2, row_size hC.r3, row_ck hC.r3, row_at hC.r3, row_has hC.r3, row_size hC.r4, row_ck hC.r4, row_at hC.r4, row_has hC.r4, row_size hC.r5, row_ck hC.r5, row_at hC.r5, row_has hC.r5, row_size hC.r6, row_ck hC.r6, row_at hC.r6, row_has hC.r6, row_size hC.r7, row_ck hC.r7, row_at hC.r7, row_has hC.r7, row_size hC.r8, row_ck hC.r8, row_at hC.r8, row_has hC.r8, row_size hC.r9, row_ck hC.r9, row_at hC.r9, row_has hC.r9, row_size hC.r10, row_ck hC.r10, row_at hC.r10, row_has hC.r10, row_size hC.r11, row_ck hC.r11, row_at hC.r11, row_has hC.r11, s1, hS.ck, hS.gI (show 0 < 5 by decide), hS.gI (show 1 < 5 by decide), hS.gI (show 2 < 5 by decide), hS.gI (show 3 < 5 by decide), hS.gI (show 4 < 5 by decide), hS.g0, row_size hS.r0, row_ck hS.r0, row_at hS.r0, row_has hS.r0, row_isFull hS.r0, hS.g1, row_size hS.r1, row_ck hS.r1, row_at hS.r1, row_has hS.r1, row_isFull hS.r1, hS.g2, row_size hS.r2, row_ck hS.r2, row_at hS.r2, row_has hS.r2, row_isFull hS.r2, hS.g3, row_size hS.r3, row_ck hS.r3, row_at hS.r3, row_has hS.r3, row_isFull hS.r3, hS.g4, row_size hS.r4, row_ck hS.r4, row_at hS.r4, row_has hS.r4, row_isFull hS.r4, hS.g5, row_size hS.r5, row_ck hS.r5, row_at hS.r5, row_has hS.r5, row_isFull hS.r5, hS.g6, row_size hS.r6, row_ck hS.r6, row_at hS.r6, row_has hS.r6, row_isFull hS.r6, hS.g7, row_size hS.r7, row_ck hS.r7, row_at hS.r7, row_has hS.r7, row_isFull hS.r7, hS.g8, row_size hS.r8, row_ck hS.r8, row_at hS.r8, row_has hS.r8, row_isFull hS.r8, hS.g9, row_size hS.r9, row_ck hS.r9, row_at hS.r9, row_has hS.r9, row_isFull hS.r9, h.ck, obs, b2s]
    by_cases hke : k = (σ.2 1).length
    · subst hke
      rw [if_pos (Int32.le_refl _), Nat.sub_self]
      rfl
    · obtain ⟨r, hr⟩ : ∃ r, (σ.2 1).length - k = r + 1 := ⟨(σ.2 1).length - k - 1, by omega⟩
      obtain ⟨t, t1, t2⟩ := ws.2.2.1 k (by omega)
      have hh : hasI (κ.2 0).length ((σ.2 1).getD k 0) = true := by rw [t2]; exact hasI_nI t1 (by omega)
      rw [if_neg (nI_ge (by omega) (by omega)), x_binFor h hN w ws, b2s, atI_nI (by omega) (by omega), if_pos hh, nI_1, ih (k + 1) (by omega) (by omega), hr, nlN, show (σ.2 1).length - (r + 1) = k by omega, show (σ.2 1).length - (k + 1) = r by omega]
      by_cases g : rmI κ σ ((σ.2 1).getD k 0) < 0
      · rw [if_pos g, if_pos g]
      · rw [if_neg g, if_neg g]; rfl
theorem x_nextInLoop (h : XAt M bf κ σ U sn) (hN : 2 ^ 15 ≤ N) (w : WFK κ) (ws : WFS κ σ) : fn_X9_nextInLoop N M 0 = some (nlv (nlI κ σ), M) := by
  obtain ⟨s1, hS⟩ := h.st
  have hl := (row_len hS.r1).1
  unfold fn_X9_nextInLoop
  have := x_nextIn (N := N) h hN w ws N 0 (by omega) (by omega)
  rw [nI_0] at this
  exact this
end XM
theorem ev_dOf {N : Nat} {M : Mem} (c : Int32) : fn_X9_diameterOf N M c = some (c / 10000, M) := by
  unfold fn_X9_diameterOf mm_dI
  rw [if_neg (by decide), Option.bind_some]
theorem ev_aOf {N : Nat} {M : Mem} (c : Int32) : fn_X9_alloyOf N M c = some (c - c / 10000 * 10000, M) := by
  unfold fn_X9_alloyOf mm_rI
  rw [if_neg (by decide), Option.bind_some]
theorem exT_form (κ : Cf) (d a : Int32) (n : Nat) : (exT κ d a 23 n).1 = 23 ∨ ∃ j, j < n ∧ (exT κ d a 23 n).1 = nI j := by
  induction n with
  | zero => exact Or.inl rfl
  | succ n ih =>
    have ih' : (exT κ d a 23 n).1 = 23 ∨ ∃ j, j < n + 1 ∧ (exT κ d a 23 n).1 = nI j := by
      rcases ih with h | ⟨j, h1, h2⟩
      · exact Or.inl h
      · exact Or.inr ⟨j, by omega, h2⟩
    rw [exT]
    split
    · split
      · exact ih'
      · exact ih'
    · exact Or.inr ⟨n, by omega, rfl⟩
theorem vd_form (κ : Cf) (d a m : Int32) : (vdI κ d a m = 21 ∨ vdI κ d a m = 22 ∨ vdI κ d a m = 23) ∨ ∃ j, j < (κ.2 0).length ∧ vdI κ d a m = nI j := by
  unfold vdI vdS vdP
  by_cases hc : vdc (exT κ d a 23 (κ.2 0).length) (exF κ d a (κ.2 5).length) = true
  · rw [if_pos hc]
    by_cases hm : m ≤ 2000
    · rw [if_pos hm]; exact Or.inl (Or.inr (Or.inl rfl))
    · rw [if_neg hm]; exact Or.inl (Or.inl rfl)
  · rw [if_neg hc]
    dsimp only
    generalize (if (exT κ d a 23 (κ.2 0).length).2.2 = 1000000 then (2000 : Int32) else (exT κ d a 23 (κ.2 0).length).2.2 - (exT κ d a 23 (κ.2 0).length).2.1) = g
    split
    · rcases exT_form κ d a (κ.2 0).length with h | ⟨j, h1, h2⟩
      · exact Or.inl (Or.inr (Or.inr h))
      · exact Or.inr ⟨j, h1, h2⟩
    · exact Or.inl (Or.inl rfl)
theorem vd_split (κ : Cf) (w : WFK κ) (d a m : Int32) : (¬ vdI κ d a m < 21 ∧ hasI (κ.2 0).length (vdI κ d a m) = false ∧ ¬ vdI κ d a m = 30 ∧ ¬ vdI κ d a m = -2) ∨ ∃ j, j < (κ.2 0).length ∧ vdI κ d a m = nI j ∧ vdI κ d a m < 21 ∧ hasI (κ.2 0).length (vdI κ d a m) = true := by
  have hb := w.1.1
  have hh : ∀ q, 21 ≤ q → q < 2 ^ 31 → hasI (κ.2 0).length (nI q) = false := fun q h1 h2 => by
    unfold hasI
    rw [decide_eq_true (nI_le (a := (κ.2 0).length) (b := q) (by omega) h2)]
    simp
  rcases vd_form κ d a m with (h | h | h) | ⟨j, h1, h2⟩
  · rw [h]; exact Or.inl ⟨by decide, hh 21 (by omega) (by omega), by decide, by decide⟩
  · rw [h]; exact Or.inl ⟨by decide, hh 22 (by omega) (by omega), by decide, by decide⟩
  · rw [h]; exact Or.inl ⟨by decide, hh 23 (by omega) (by omega), by decide, by decide⟩
  · refine Or.inr ⟨j, h1, h2, ?_, ?_⟩
    · rw [h2]; exact nI_lt (b := 21) (by omega) (by omega)
    · rw [h2]; exact hasI_nI h1 (by omega)
def unst (x : Int32) : Int32 := if x = 30 then -2 else x
theorem unst_m2 : unst (-2) = -2 := by decide
section XO
variable {N : Nat} {M M' : Mem} {bf : List Int32} {κ : Cf} {σ : St} {U : List St} {sn : Nat → Option St}
theorem unst_nI {j : Nat} (h : j < 30) : unst (nI j) = nI j := by
  unfold unst
  rw [if_neg]
  intro q
  have := (nI_eq (a := j) (b := 30) (by omega) (by omega)).mp q
  omega
theorem x_outcomeOf (h : XAt M bf κ σ U sn) (hN : 2 ^ 15 ≤ N) (w : WFK κ) (ws : WFS κ σ) (d a : Int32) : ∃ M', fn_X9_outcomeOf N M 0 d a = some (unst (if d ≤ κ.1 0 then (if vdI κ (d + σ.1 0) (a + σ.1 1) (σ.1 2) < 21 then (if hbI κ (vdI κ (d + σ.1 0) (a + σ.1 1) (σ.1 2)) then (if rmI κ σ (vdI κ (d + σ.1 0) (a + σ.1 1) (σ.1 2)) < 0 then (if κ.1 1 ≤ nI (σ.2 1).length then 30 else 20) else rmI κ σ (vdI κ (d + σ.1 0) (a + σ.1 1) (σ.1 2))) else 23) else vdI κ (d + σ.1 0) (a + σ.1 1) (σ.1 2)) else 24), M') ∧ XAt M' bf κ σ U sn ∧ Fr M M' 377 389 := by
  have hb := w.1.2.2.2.2.1
  unfold fn_X9_outcomeOf
  obtain ⟨cf, c1, hC, c2⟩ := h.cfg
  obtain ⟨s1, hS⟩ := h.st
  simp only [c1, hC.ty, hC.fk, hC.bt, hC.bs, hC.i0, hC.i1, hC.i2, hC.ct, hC.cf, fn_X3_count, hC.t0, hC.t1, hC.t2, hC.t3, hC.t4, hC.f0, hC.f1, hC.f2, hC.f3, hC.f4, row_size hC.r0, row_ck hC.r0, row_at hC.r0, row_has hC.r0, row_size hC.r1, row_ck hC.r1, row_at hC.r1, row_has hC.r1, row_size hC.r2, row_ck hC.r2, row_at hC.r2, row_has hC.r2, row_size hC.r3, row_ck hC.r3, row_at hC.r3, row_has hC.r3, row_size hC.r4, row_ck hC.r4, row_at hC.r4, row_has hC.r4, row_size hC.r5, row_ck hC.r5, row_at hC.r5, row_has hC.r5, row_size hC.r6, row_ck hC.r6, row_at hC.r6, row_has hC.r6, row_size hC.r7, row_ck hC.r7, row_at hC.r7, row_has hC.r7, row_size hC.r8, row_ck hC.r8, row_at hC.r8, row_has hC.r8, row_size hC.r9, row_ck hC.r9, row_at hC.r9, row_has hC.r9, row_size hC.r10, row_ck hC.r10, row_at hC.r10, row_has hC.r10, row_size hC.r11, row_ck hC.r11, row_at hC.r11, row_has hC.r11, s1, hS.ck, hS.gI (show 0 < 5 by decide), hS.gI (show 1 < 5 by decide), hS.gI (show 2 < 5 by decide), hS.gI (show 3 < 5 by decide), hS.gI (show 4 < 5 by decide), hS.g0, row_size hS.r0, row_ck hS.r0, row_at hS.r0, row_has hS.r0, row_isFull hS.r0, hS.g1, row_size hS.r1, row_ck hS.r1, row_at hS.r1, row_has hS.r1, row_isFull hS.r1, hS.g2, row_size hS.r2, row_ck hS.r2, row_at hS.r2, row_has hS.r2, row_isFull hS.r2, hS.g3, row_size hS.r3, row_ck hS.r3, row_at hS.r3, row_has hS.r3, row_isFull hS.r3, hS.g4, row_size hS.r4, row_ck hS.r4, row_at hS.r4, row_has hS.r4, row_isFull hS.r4, hS.g5, row_size hS.r5, row_ck hS.r5, row_at hS.r5, row_has hS.r5, row_isFull hS.r5, hS.g6, row_size hS.r6, row_ck hS.r6, row_at hS.r6, row_has hS.r6, row_isFull hS.r6, hS.g7, row_size hS.r7, row_ck hS.r7, row_at hS.r7, row_has hS.r7, row_isFull hS.r7, hS.g8, row_size hS.r8, row_ck hS.r8, row_at hS.r8, row_has hS.r8, row_isFull hS.r8, hS.g9, row_size hS.r9, row_ck hS.r9, row_at hS.r9, row_has hS.r9, row_isFull hS.r9, h.ck, obs, b2s]
  by_cases hg : d ≤ κ.1 0
  · rw [if_pos hg, if_pos hg]
    obtain ⟨M1, e1, h1, f1, -⟩ := x_verdict (N := N) h hN d a (σ.1 2)
    rw [e1, b2s, h1.ck, Option.bind_some, x_isType h1, b2s]
    clear c1 hC s1 hS
    obtain ⟨cf, c1, hC, c2⟩ := h1.cfg
    obtain ⟨s1, hS⟩ := h1.st
    rcases vd_split κ w (d + σ.1 0) (a + σ.1 1) (σ.1 2) with ⟨g1, g2, g3, g4⟩ | ⟨j, j1, j2, j3, j4⟩
    · rw [g2, if_neg g1]
      refine ⟨M1, ?_, h1, f1⟩
      unfold unst
      rw [if_neg g3]
      rfl
    · rw [j4, if_pos j3, if_pos rfl, if_neg (by decide)]
      have hB : fn_X9_hasBin N M1 0 (vdI κ (d + σ.1 0) (a + σ.1 1) (σ.1 2)) = some (if hbI κ (vdI κ (d + σ.1 0) (a + σ.1 1) (σ.1 2)) then 1 else 0, M1) := by
        unfold fn_X9_hasBin
        have := x_hasBin (N := N) h1 w (vdI κ (d + σ.1 0) (a + σ.1 1) (σ.1 2)) N 0 (by omega) (by omega)
        rw [nI_0] at this
        exact this
      rw [h1.ck, Option.bind_some, hB, b2s]
      by_cases g : hbI κ (vdI κ (d + σ.1 0) (a + σ.1 1) (σ.1 2)) = true
      · simp only [if_pos g]
        rw [if_neg (by decide), h1.ck, Option.bind_some, x_binFor h1 hN w ws, b2s, if_pos j4]
        simp only [c1, hC.ty, hC.fk, hC.bt, hC.bs, hC.i0, hC.i1, hC.i2, hC.ct, hC.cf, fn_X3_count, hC.t0, hC.t1, hC.t2, hC.t3, hC.t4, hC.f0, hC.f1, hC.f2, hC.f3, hC.f4, row_size hC.r0, row_ck hC.r0, row_at hC.r0, row_has hC.r0, row_size hC.r1, row_ck hC.r1, row_at hC.r1, row_has hC.r1, row_size hC.r2, row_ck hC.r2, row_at hC.r2, row_has hC.r2, row_size hC.r3, row_ck hC.r3, row_at hC.r3, row_has hC.r3, row_size hC.r4, row_ck hC.r4, row_at hC.r4, row_has hC.r4, row_size hC.r5, row_ck hC.r5, row_at hC.r5, row_has hC.r5, row_size hC.r6, row_ck hC.r6, row_at hC.r6, row_has hC.r6, row_size hC.r7, row_ck hC.r7, row_at hC.r7, row_has hC.r7, row_size hC.r8, row_ck hC.r8, row_at hC.r8, row_has hC.r8, row_size hC.r9, row_ck hC.r9, row_at hC.r9, row_has hC.r9, row_size hC.r10, row_ck hC.r10, row_at hC.r10, row_has hC.r10, row_size hC.r11, row_ck hC.r11, row_at hC.r11, row_has hC.r11, s1, hS.ck, hS.gI (show 0 < 5 by decide), hS.gI (show 1 < 5 by decide), hS.gI (show 2 < 5 by decide), hS.gI (show 3 < 5 by decide), hS.gI (show 4 < 5 by decide), hS.g0, row_size hS.r0, row_ck hS.r0, row_at hS.r0, row_has hS.r0, row_isFull hS.r0, hS.g1, row_size hS.r1, row_ck hS.r1, row_at hS.r1, row_has hS.r1, row_isFull hS.r1, hS.g2, row_size hS.r2, row_ck hS.r2, row_at hS.r2, row_has hS.r2, row_isFull hS.r2, hS.g3, row_size hS.r3, row_ck hS.r3, row_at hS.r3, row_has hS.r3, row_isFull hS.r3, hS.g4, row_size hS.r4, row_ck hS.r4, row_at hS.r4, row_has hS.r4, row_isFull hS.r4, hS.g5, row_size hS.r5, row_ck hS.r5, row_at hS.r5, row_has hS.r5, row_isFull hS.r5, hS.g6, row_size hS.r6, row_ck hS.r6, row_at hS.r6, row_has hS.r6, row_isFull hS.r6, hS.g7, row_size hS.r7, row_ck hS.r7, row_at hS.r7, row_has hS.r7, row_isFull hS.r7, hS.g8, row_size hS.r8, row_ck hS.r8, row_at hS.r8, row_has hS.r8, row_isFull hS.r8, hS.g9, row_size hS.r9, row_ck hS.r9, row_at hS.r9, row_has hS.r9, row_isFull hS.r9, h.ck, obs, b2s]
        by_cases g2 : rmI κ σ (vdI κ (d + σ.1 0) (a + σ.1 1) (σ.1 2)) < 0
        · rw [if_pos g2, if_pos g2]
          refine ⟨M1, ?_, h1, f1⟩
          split <;> rfl
        · rw [if_neg g2, if_neg g2]
          refine ⟨M1, ?_, h1, f1⟩
          rcases rmI_form κ σ (vdI κ (d + σ.1 0) (a + σ.1 1) (σ.1 2)) hb with ⟨q, -⟩ | ⟨i, i1, i2, -⟩
          · exact absurd q g2
          · rw [i2, unst_nI (by omega)]
      · simp only [if_neg g]
        rw [if_pos trivial]
        exact ⟨M1, rfl, h1, f1⟩
  · rw [if_neg hg, if_neg hg]
    exact ⟨M, rfl, h, Fr.rf⟩
theorem x_nextOutcome (h : XAt M bf κ σ U sn) (hN : 2 ^ 15 ≤ N) (w : WFK κ) (ws : WFS κ σ) : ∃ M', fn_X9_nextOutcome N M 0 = some (unst (nxI κ σ), M') ∧ XAt M' bf κ σ U sn ∧ Fr M M' 377 389 := by
  have hb := w.1.2.2.2.2.1
  have hb1 := w.1.1
  unfold fn_X9_nextOutcome
  generalize hR : unst (nxI κ σ) = R
  obtain ⟨cf, c1, hC, c2⟩ := h.cfg
  obtain ⟨s1, hS⟩ := h.st
  have hl := (row_len hS.r1).1
  have hl0 := (row_len hS.r0).1
  simp only [c1, hC.ty, hC.fk, hC.bt, hC.bs, hC.i0, hC.i1, hC.i2, hC.ct, hC.cf, fn_X3_count, hC.t0, hC.t1, hC.t2, hC.t3, hC.t4, hC.f0, hC.f1, hC.f2, hC.f3, hC.f4, row_size hC.r0, row_ck hC.r0, row_at hC.r0, row_has hC.r0, row_size hC.r1, row_ck hC.r1, row_at hC.r1, row_has hC.r1, row_size hC.r2, row_ck hC.r2, row_at hC.r2, row_has hC.r2, row_size hC.r3, row_ck hC.r3, row_at hC.r3, row_has hC.r3, row_size hC.r4, row_ck hC.r4, row_at hC.r4, row_has hC.r4, row_size hC.r5, row_ck hC.r5, row_at hC.r5, row_has hC.r5, row_size hC.r6, row_ck hC.r6, row_at hC.r6, row_has hC.r6, row_size hC.r7, row_ck hC.r7, row_at hC.r7, row_has hC.r7, row_size hC.r8, row_ck hC.r8, row_at hC.r8, row_has hC.r8, row_size hC.r9, row_ck hC.r9, row_at hC.r9, row_has hC.r9, row_size hC.r10, row_ck hC.r10, row_at hC.r10, row_has hC.r10, row_size hC.r11, row_ck hC.r11, row_at hC.r11, row_has hC.r11, s1, hS.ck, hS.gI (show 0 < 5 by decide), hS.gI (show 1 < 5 by decide), hS.gI (show 2 < 5 by decide), hS.gI (show 3 < 5 by decide), hS.gI (show 4 < 5 by decide), hS.g0, row_size hS.r0, row_ck hS.r0, row_at hS.r0, row_has hS.r0, row_isFull hS.r0, hS.g1, row_size hS.r1, row_ck hS.r1, row_at hS.r1, row_has hS.r1, row_isFull hS.r1, hS.g2, row_size hS.r2, row_ck hS.r2, row_at hS.r2, row_has hS.r2, row_isFull hS.r2, hS.g3, row_size hS.r3, row_ck hS.r3, row_at hS.r3, row_has hS.r3, row_isFull hS.r3, hS.g4, row_size hS.r4, row_ck hS.r4, row_at hS.r4, row_has hS.r4, row_isFull hS.r4, hS.g5, row_size hS.r5, row_ck hS.r5, row_at hS.r5, row_has hS.r5, row_isFull hS.r5, hS.g6, row_size hS.r6, row_ck hS.r6, row_at hS.r6, row_has hS.r6, row_isFull hS.r6, hS.g7, row_size hS.r7, row_ck hS.r7, row_at hS.r7, row_has hS.r7, row_isFull hS.r7, hS.g8, row_size hS.r8, row_ck hS.r8, row_at hS.r8, row_has hS.r8, row_isFull hS.r8, hS.g9, row_size hS.r9, row_ck hS.r9, row_at hS.r9, row_has hS.r9, row_isFull hS.r9, h.ck, obs, b2s]
  rcases hS.2.1 with g | g
  · have g' : ¬ σ.1 3 = 1 := by rw [g]; decide
    rw [if_pos g, x_nextInLoop h hN w ws, b2s]
    rcases hn : nlI κ σ with _ | k
    · rw [nxI_none g' hn] at hR
      rw [if_pos (show nlv none = -2 from rfl)]
      rw [s1, Option.bind_some, hS.g0, Option.bind_some, row_size hS.r0, Option.bind_some]
      by_cases h0 : (σ.2 0).length = 0
      · rw [if_pos h0] at hR
        rw [h0, if_pos nI_0, ← hR]
        exact ⟨M, by rw [unst_m2], h, Fr.rf⟩
      · have hz : atI (σ.2 0) 0 = (σ.2 0).getD 0 0 := by
          have := atI_nI (l := σ.2 0) (j := 0) (by omega) (by omega)
          rwa [nI_0] at this
        rw [if_neg h0] at hR
        rw [if_neg (nI_ne0 (by omega) (by omega)), Option.bind_some, hS.g0, Option.bind_some, row_ck hS.r0, Option.bind_some, row_at hS.r0, b2s, ev_dOf, b2s, ev_aOf, b2s, hz, h.ck, Option.bind_some]
        obtain ⟨M1, e1, h1, f1⟩ := x_outcomeOf (N := N) h hN w ws ((σ.2 0).getD 0 0 / 10000) ((σ.2 0).getD 0 0 - (σ.2 0).getD 0 0 / 10000 * 10000)
        rw [e1, b2s, ← hR]
        exact ⟨M1, rfl, h1, f1⟩
    · obtain ⟨k1, k2⟩ := nlN_some _ (Nat.le_refl _) hn
      obtain ⟨t, t1, t2⟩ := ws.2.2.1 k k1
      have hh : hasI (κ.2 0).length ((σ.2 1).getD k 0) = true := by rw [t2]; exact hasI_nI t1 (by omega)
      have e5 : ¬ nlv (some k) = -2 := by
        show ¬ nI k = -2
        intro q
        exact nI_pos (show k < 2 ^ 31 by omega) (by rw [q]; decide)
      rw [nxI_some g' hn] at hR
      rw [if_neg e5]
      simp only [c1, hC.ty, hC.fk, hC.bt, hC.bs, hC.i0, hC.i1, hC.i2, hC.ct, hC.cf, fn_X3_count, hC.t0, hC.t1, hC.t2, hC.t3, hC.t4, hC.f0, hC.f1, hC.f2, hC.f3, hC.f4, row_size hC.r0, row_ck hC.r0, row_at hC.r0, row_has hC.r0, row_size hC.r1, row_ck hC.r1, row_at hC.r1, row_has hC.r1, row_size hC.r2, row_ck hC.r2, row_at hC.r2, row_has hC.r2, row_size hC.r3, row_ck hC.r3, row_at hC.r3, row_has hC.r3, row_size hC.r4, row_ck hC.r4, row_at hC.r4, row_has hC.r4, row_size hC.r5, row_ck hC.r5, row_at hC.r5, row_has hC.r5, row_size hC.r6, row_ck hC.r6, row_at hC.r6, row_has hC.r6, row_size hC.r7, row_ck hC.r7, row_at hC.r7, row_has hC.r7, row_size hC.r8, row_ck hC.r8, row_at hC.r8, row_has hC.r8, row_size hC.r9, row_ck hC.r9, row_at hC.r9, row_has hC.r9, row_size hC.r10, row_ck hC.r10, row_at hC.r10, row_has hC.r10, row_size hC.r11, row_ck hC.r11, row_at hC.r11, row_has hC.r11, s1, hS.ck, hS.gI (show 0 < 5 by decide), hS.gI (show 1 < 5 by decide), hS.gI (show 2 < 5 by decide), hS.gI (show 3 < 5 by decide), hS.gI (show 4 < 5 by decide), hS.g0, row_size hS.r0, row_ck hS.r0, row_at hS.r0, row_has hS.r0, row_isFull hS.r0, hS.g1, row_size hS.r1, row_ck hS.r1, row_at hS.r1, row_has hS.r1, row_isFull hS.r1, hS.g2, row_size hS.r2, row_ck hS.r2, row_at hS.r2, row_has hS.r2, row_isFull hS.r2, hS.g3, row_size hS.r3, row_ck hS.r3, row_at hS.r3, row_has hS.r3, row_isFull hS.r3, hS.g4, row_size hS.r4, row_ck hS.r4, row_at hS.r4, row_has hS.r4, row_isFull hS.r4, hS.g5, row_size hS.r5, row_ck hS.r5, row_at hS.r5, row_has hS.r5, row_isFull hS.r5, hS.g6, row_size hS.r6, row_ck hS.r6, row_at hS.r6, row_has hS.r6, row_isFull hS.r6, hS.g7, row_size hS.r7, row_ck hS.r7, row_at hS.r7, row_has hS.r7, row_isFull hS.r7, hS.g8, row_size hS.r8, row_ck hS.r8, row_at hS.r8, row_has hS.r8, row_isFull hS.r8, hS.g9, row_size hS.r9, row_ck hS.r9, row_at hS.r9, row_has hS.r9, row_isFull hS.r9, h.ck, obs, b2s]
      rw [x_binFor h hN w ws, b2s, show nlv (some k) = nI k from rfl, atI_nI k1 (by omega), if_pos hh, ← hR]
      refine ⟨M, ?_, h, Fr.rf⟩
      rcases rmI_form κ σ ((σ.2 1).getD k 0) hb with ⟨q, -⟩ | ⟨i, i1, i2, -⟩
      · exact absurd q k2
      · rw [i2, unst_nI (by omega)]
  · rw [nxI_jam g] at hR
    rw [if_neg (by rw [g]; decide), ← hR]
    exact ⟨M, by rw [unst_m2], h, Fr.rf⟩
end XO
