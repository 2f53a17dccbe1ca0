/-! PURE: stock, plan and coins in the class -/
def stN (κ : Cf) (σ : St) : Nat → Nat → Nat
  | 0 => fun _ => 0
  | b + 1 => va_up (stN κ σ b) ((κ.2 10).getD b 0).toNatClampNeg (stN κ σ b ((κ.2 10).getD b 0).toNatClampNeg + ((σ.2 2).getD b 0).toNatClampNeg)
def vN (κ : Cf) (t : Nat) : Nat := ((κ.2 0).getD t 0).toNatClampNeg
def stA (κ : Cf) (σ : St) : Nat → Nat := stN κ σ (κ.2 10).length
def wN (s : Nat → Nat) (u : Nat) : Nat := PL s 0 8 - PQ s u
theorem bin_fact {κ : Cf} {σ : St} (w : WFK κ) (ws : WFS κ σ) {b : Nat} (hb : b < (κ.2 10).length) : ∃ t c, t < (κ.2 0).length ∧ t < 8 ∧ c ≤ 100 ∧ (κ.2 10).getD b 0 = nI t ∧ (σ.2 2).getD b 0 = nI c ∧ ((κ.2 10).getD b 0).toNatClampNeg = t ∧ ((σ.2 2).getD b 0).toNatClampNeg = c := by
  have h8 := w.1.1
  obtain ⟨⟨t, t1, t2⟩, -⟩ := w.2.2.2.1 b hb
  obtain ⟨n, z, e1, e2, e3, e4⟩ := ws.2.1 b hb
  exact ⟨t, n, t1, by omega, by omega, t2, e1, by rw [t2, nI_clamp (by omega)], by rw [e1, nI_clamp (by omega)]⟩
theorem SR_up {f : Nat → Nat} {j c : Nat} : ∀ r t, SR (va_up f j (f j + c)) t r ≤ SR f t r + c := by
  have e : ∀ u, u ≠ j → va_up f j (f j + c) u = f u := fun u hu => by simp [va_up, hu]
  have e0 : va_up f j (f j + c) j = f j + c := by simp [va_up]
  intro r
  induction r with
  | zero => intro t; exact Nat.zero_le _
  | succ r ih =>
    intro t
    rw [SR, SR]
    by_cases h : t = j
    · subst h
      rw [e0, SR_congr r (t + 1) (fun u h1 h2 => e u (by omega))]
      omega
    · rw [e t h]
      have := ih (t + 1)
      omega
theorem stN_fact {κ : Cf} {σ : St} (w : WFK κ) (ws : WFS κ σ) : ∀ b, b ≤ (κ.2 10).length → (∀ u, (κ.2 0).length ≤ u → stN κ σ b u = 0) ∧ SR (stN κ σ b) 0 8 ≤ 100 * b ∧ PL (stN κ σ b) 0 8 ≤ 101 ^ b := by
  intro b
  induction b with
  | zero => intro _; exact ⟨fun _ _ => rfl, Nat.le_of_eq (SR_zero 8 0 (fun _ _ _ => rfl)), Nat.le_of_eq (by simp [PL, stN])⟩
  | succ b ih =>
    intro hb
    obtain ⟨i1, i2, i3⟩ := ih (by omega)
    obtain ⟨t, c, t1, t2, c1, -, -, e1, e2⟩ := bin_fact w ws (show b < (κ.2 10).length by omega)
    rw [stN, e1, e2]
    refine ⟨fun u hu => ?_, ?_, ?_⟩
    · have : va_up (stN κ σ b) t (stN κ σ b t + c) u = stN κ σ b u := by simp [va_up]; omega
      rw [this]
      exact i1 u hu
    · have := SR_up (f := stN κ σ b) (j := t) (c := c) 8 0
      omega
    · have := (PL_up (s := stN κ σ b) (s' := va_up (stN κ σ b) t (stN κ σ b t + c)) (j := t) (c := c) (fun u hu => by simp [va_up, hu]) (by simp [va_up]) 8 0).1
      calc _ ≤ (c + 1) * PL (stN κ σ b) 0 8 := this
        _ ≤ 101 * 101 ^ b := Nat.mul_le_mul (by omega) i3
        _ = 101 ^ (b + 1) := by rw [Nat.pow_succ, Nat.mul_comm]
theorem stA_fact {κ : Cf} {σ : St} (w : WFK κ) (ws : WFS κ σ) : (∀ u, (κ.2 0).length ≤ u → stA κ σ u = 0) ∧ SR (stA κ σ) 0 8 ≤ 800 ∧ PL (stA κ σ) 0 8 ≤ 101 ^ 8 ∧ ∀ u, u < 8 → stA κ σ u ≤ 800 := by
  have h8 := w.1.2.2.2.2.1
  obtain ⟨h1, h2, h3⟩ := stN_fact w ws (κ.2 10).length (Nat.le_refl _)
  have h2' : SR (stA κ σ) 0 8 ≤ 800 := Nat.le_trans h2 (by omega)
  refine ⟨h1, h2', Nat.le_trans h3 (Nat.pow_le_pow_right (by decide) h8), fun u hu => ?_⟩
  have e := SR_split (stA κ σ) u 0 (8 - u)
  rw [show u + (8 - u) = 8 by omega, Nat.zero_add] at e
  have e2 : SR (stA κ σ) u (8 - u) = stA κ σ u + SR (stA κ σ) (u + 1) (7 - u) := by
    rw [show 8 - u = (7 - u) + 1 by omega, SR]
  omega
theorem S0_mono {f g : Nat → Nat} : ∀ k, (∀ u, u < k → f u ≤ g u) → S0 f k ≤ S0 g k := by
  intro k
  induction k with
  | zero => intro _; exact Nat.le_refl _
  | succ k ih => intro h; rw [S0, S0]; exact Nat.add_le_add (ih (fun u hu => h u (by omega))) (h k (by omega))
theorem S0_grow {f : Nat → Nat} : ∀ d k, S0 f k ≤ S0 f (k + d) := by
  intro d
  induction d with
  | zero => intro k; exact Nat.le_refl _
  | succ d ih => intro k; rw [show k + (d + 1) = (k + d) + 1 by omega, S0]; have := ih k; omega
def BXn (s : Nat → Nat) : Nat := S0 (fun u => s u * wN s u) 8
theorem BX_lt {κ : Cf} {σ : St} (w : WFK κ) (ws : WFS κ σ) : BXn (stA κ σ) + PL (stA κ σ) 0 8 < 2 ^ 63 := by
  obtain ⟨-, h2, h3, -⟩ := stA_fact w ws
  have h1 : BXn (stA κ σ) ≤ 800 * 101 ^ 8 := by
    unfold BXn
    calc S0 (fun u => stA κ σ u * wN (stA κ σ) u) 8 ≤ S0 (fun u => stA κ σ u * 101 ^ 8) 8 := S0_mono 8 (fun u _ => Nat.mul_le_mul_left _ (Nat.le_trans (Nat.sub_le _ _) h3))
      _ = S0 (stA κ σ) 8 * 101 ^ 8 := by
        have : ∀ k, S0 (fun u => stA κ σ u * 101 ^ 8) k = S0 (stA κ σ) k * 101 ^ 8 := by
          intro k
          induction k with
          | zero => rw [S0, S0, Nat.zero_mul]
          | succ k ih => rw [S0, S0, ih, Nat.add_mul]
        exact this 8
      _ ≤ 800 * 101 ^ 8 := Nat.mul_le_mul_right _ (by rw [S0_SR]; exact h2)
  have : 800 * 101 ^ 8 + 101 ^ 8 < 2 ^ 63 := by decide
  omega
theorem AtW_bd {s v : Nat → Nat} {k a x : Nat} (hk : k ≤ 8) (h : AtW s v (wN s) k a x) : x ≤ BXn s := by
  obtain ⟨n, h1, -, rfl⟩ := h
  calc S0 (fun u => n u * wN s u) k ≤ S0 (fun u => s u * wN s u) k := S0_mono k (fun u hu => Nat.mul_le_mul_right _ (h1 u hu))
    _ ≤ BXn s := by have := S0_grow (f := fun u => s u * wN s u) (8 - k) k; rw [show k + (8 - k) = 8 by omega] at this; exact this
theorem AtW_8 {s v : Nat → Nat} {a x : Nat} : AtW s v (wN s) 8 a x ↔ ∃ n, PayV s v n 0 8 a ∧ WT s n = x := by
  constructor
  · rintro ⟨n, h1, h2, h3⟩
    refine ⟨n, ⟨fun u _ hu => h1 u (by omega), ?_⟩, ?_⟩
    · rw [← S0_SR]; exact h2
    · unfold WT; rw [← S0_SR]; exact h3
  · rintro ⟨n, ⟨h1, h2⟩, h3⟩
    refine ⟨n, fun u hu => h1 u (by omega) (by omega), ?_, ?_⟩
    · rw [S0_SR]; exact h2
    · rw [S0_SR]; exact h3
section XZ
variable {N : Nat} {M : Mem} {bf : List Int32} {κ : Cf} {σ : St} {U : List St} {sn : Nat → Option St}
theorem XAt.pay (h : XAt M bf κ σ U sn) : ∃ st pl wt wh lc, PyAt M st pl wt wh lc := by
  obtain ⟨-, -, ⟨wh, h3⟩, ⟨st, h4⟩, ⟨pl, h5⟩, ⟨wt, h6⟩, ⟨l, h7⟩, -⟩ := h.sc
  exact ⟨st, pl, wt, wh, l, h3, h4, h5, h6, h7⟩
theorem XAt.setPy {M' : Mem} {st : Nat → Int32} {pl wt : Nat → Int64} {wh : Int64} {lc : List Int32} (h : XAt M bf κ σ U sn) (ht : PyAt M' st pl wt wh lc) (hf : Fr M M' 378 384) : XAt M' bf κ σ U sn := by
  refine h.setSc ?_ (hf.mono (by omega) (by omega))
  obtain ⟨h1, h2, -, -, -, -, -, h8, ⟨l2, h9⟩, ⟨l3, h10⟩⟩ := h.sc
  exact ⟨by rw [hf.2 2 (by omega)]; exact h1, by rw [hf.2 377 (by omega)]; exact h2, ⟨wh, ht.1⟩, ⟨st, ht.2.1⟩, ⟨pl, ht.2.2.1⟩, ⟨wt, ht.2.2.2.1⟩, ⟨lc, ht.2.2.2.2⟩, by rw [hf.2 384 (by omega)]; exact h8, ⟨l2, h9.keep hf (by omega)⟩, ⟨l3, h10.keep hf (by omega)⟩⟩
theorem fill8 : ∀ (m k : Nat) (M : Mem) (f : Nat → Int32), M[379]? = some (.inl (0, 8, .inl f)) → k ≤ 8 → 8 - k < m → ∃ f', fn_J7_fill_53178_5 N m M 379 0 (nI k) (nI 8) = some ((), M.set 379 (.inl (0, 8, .inl f'))) ∧ ∀ i, f' i = if k ≤ i ∧ i < 8 then 0 else f i := by
  intro m
  induction m with
  | zero => intro k M f _ _ h; omega
  | succ m ih =>
    intro k M f h1 hk hm
    rw [fn_J7_fill_53178_5.eq_2]
    by_cases he : k = 8
    · subst he
      rw [if_pos (Int32.le_refl _)]
      refine ⟨f, ?_, fun i => by rw [if_neg (by omega)]⟩
      obtain ⟨hb, he⟩ := List.getElem?_eq_some_iff.mp h1
      rw [← he, List.set_getElem_self]
    · rw [if_neg (nI_ge (by omega) (by omega)), ev_sI h1 (by omega) (by omega), obs, nI_1]
      obtain ⟨f', q1, q2⟩ := ih (k + 1) (M.set 379 (.inl (0, 8, .inl (upd f k 0)))) (upd f k 0) (st_self h1) (by omega) (by omega)
      refine ⟨f', by rw [q1, List.set_set], fun i => ?_⟩
      rw [q2 i]
      by_cases h5 : k + 1 ≤ i ∧ i < 8
      · rw [if_pos h5, if_pos (by omega)]
      · rw [if_neg h5]
        by_cases h6 : i = k
        · subst h6; rw [pk_us, if_pos (by omega)]
        · rw [pk_un h6, if_neg (by omega)]
theorem fillL {am : Nat} (ham : am ≤ 5000) : ∀ (m k : Nat) (M : Mem) (f : Nat → Int64), M[381]? = some (.inl (1, 5001, .inr (.inl f))) → k ≤ am + 1 → am + 1 - k < m → ∃ f', fn_J7_fill_bad5a_10 N m M 381 (nI (am + 1)) (-1) (nI k) = some ((), M.set 381 (.inl (1, 5001, .inr (.inl f')))) ∧ ∀ i, f' i = if k ≤ i ∧ i < am + 1 then -1 else f i := by
  intro m
  induction m with
  | zero => intro k M f _ _ h; omega
  | succ m ih =>
    intro k M f h1 hk hm
    rw [fn_J7_fill_bad5a_10.eq_2]
    by_cases he : k = am + 1
    · subst he
      rw [if_pos (Int32.le_refl _)]
      refine ⟨f, ?_, fun i => by rw [if_neg (by omega)]⟩
      obtain ⟨hb, he⟩ := List.getElem?_eq_some_iff.mp h1
      rw [← he, List.set_getElem_self]
    · rw [if_neg (nI_ge (by omega) (by omega)), ev_sL h1 (by omega) (by omega), obs, nI_1]
      obtain ⟨f', q1, q2⟩ := ih (k + 1) (M.set 381 (.inl (1, 5001, .inr (.inl (vp_updL f k (-1)))))) (vp_updL f k (-1)) (st_self h1) (by omega) (by omega)
      refine ⟨f', by rw [q1, List.set_set], fun i => ?_⟩
      rw [q2 i]
      by_cases h5 : k + 1 ≤ i ∧ i < am + 1
      · rw [if_pos h5, if_pos (by omega)]
      · rw [if_neg h5]
        by_cases h6 : i = k
        · subst h6; rw [pk_uLs, if_pos (by omega)]
        · rw [pk_uLn h6, if_neg (by omega)]
theorem py_st {st : Nat → Int32} {pl wt : Nat → Int64} {wh : Int64} {lc : List Int32} (h : PyAt M st pl wt wh lc) (st' : Nat → Int32) : PyAt (M.set 379 (.inl (0, 8, .inl st'))) st' pl wt wh lc ∧ Fr M (M.set 379 (.inl (0, 8, .inl st'))) 378 384 := by
  obtain ⟨h1, h2, h3, h4, h5⟩ := h
  have hf : Fr M (M.set 379 (.inl (0, 8, .inl st'))) 379 380 := Fr.set (by omega) (by omega)
  exact ⟨⟨by rw [hf.2 378 (by omega)]; exact h1, st_self h2, by rw [hf.2 380 (by omega)]; exact h3, by rw [hf.2 381 (by omega)]; exact h4, h5.keep hf (by omega)⟩, hf.mono (by omega) (by omega)⟩
theorem py_pl {st : Nat → Int32} {pl wt : Nat → Int64} {wh : Int64} {lc : List Int32} (h : PyAt M st pl wt wh lc) (pl' : Nat → Int64) : PyAt (M.set 380 (.inl (1, 8, .inr (.inl pl')))) st pl' wt wh lc ∧ Fr M (M.set 380 (.inl (1, 8, .inr (.inl pl')))) 378 384 := by
  obtain ⟨h1, h2, h3, h4, h5⟩ := h
  have hf : Fr M (M.set 380 (.inl (1, 8, .inr (.inl pl')))) 380 381 := Fr.set (by omega) (by omega)
  exact ⟨⟨by rw [hf.2 378 (by omega)]; exact h1, by rw [hf.2 379 (by omega)]; exact h2, st_self h3, by rw [hf.2 381 (by omega)]; exact h4, h5.keep hf (by omega)⟩, hf.mono (by omega) (by omega)⟩
theorem py_wh {st : Nat → Int32} {pl wt : Nat → Int64} {wh : Int64} {lc : List Int32} (h : PyAt M st pl wt wh lc) (wh' : Int64) : ∃ M', mm_pV M 378 5 3 (.long wh') = some M' ∧ PyAt M' st pl wt wh' lc ∧ Fr M M' 378 384 := by
  obtain ⟨h1, h2, h3, h4, h5⟩ := h
  have hf : Fr M (M.set 378 (.inr (5, [Value.ref 379, .ref 380, .ref 381, .long wh, .ref 382].set 3 (.long wh')))) 378 379 := Fr.set (by omega) (by omega)
  exact ⟨_, ev_pV h1 (by simp), ⟨st_self h1, by rw [hf.2 379 (by omega)]; exact h2, by rw [hf.2 380 (by omega)]; exact h3, by rw [hf.2 381 (by omega)]; exact h4, h5.keep hf (by omega)⟩, hf.mono (by omega) (by omega)⟩
theorem ts69 {s : Nat → Nat} (hs : ∀ u, u < 8 → s u ≤ 800) {st : Nat → Int32} {wt : Nat → Int64} {lc : List Int32} (hst : ∀ u, u < 8 → st u = nI (s u)) : ∀ (m j : Nat) (M : Mem) (pl : Nat → Int64) (x : Int32), j ≤ 8 → (j = 0 ∧ x = -1 ∨ 0 < j ∧ x = nI (j - 1)) → PyAt M st pl wt (lN (PL s j (8 - j))) lc → (∀ u, j ≤ u → u < 8 → pl u = lN (PQ s u)) → j < m → ∃ M' pl', fn_X5_takeStock_69 N m M 378 x = some ((), M') ∧ PyAt M' st pl' wt (lN (PL s 0 8)) lc ∧ Fr M M' 378 384 ∧ ∀ u, u < 8 → pl' u = lN (PQ s u) := by
  intro m
  induction m with
  | zero => intro j M pl x _ _ _ _ h; omega
  | succ m ih =>
    intro j M pl x hj hx h hp hm
    rw [fn_X5_takeStock_69.eq_2]
    rcases hx with ⟨rfl, rfl⟩ | ⟨j0, rfl⟩
    · rw [if_pos (by decide)]
      exact ⟨M, pl, rfl, h, Fr.rf, fun u hu => hp u (by omega) hu⟩
    · obtain ⟨t, rfl⟩ : ∃ t, j = t + 1 := ⟨j - 1, by omega⟩
      rw [show t + 1 - 1 = t by omega, if_neg (nI_pos (by omega)), ev_gR h.1 rfl, obs, ev_gL h.1 rfl, obs, ev_sL h.2.2.1 (by omega) (by omega), obs]
      obtain ⟨p1, p2⟩ := py_pl h (vp_updL pl t (lN (PL s (t + 1) (8 - (t + 1)))))
      rw [ev_gL p1.1 rfl, obs, ev_gR p1.1 rfl, obs, ev_aI p1.2.1 (by omega) (by omega), obs, hst t (by omega), nI_1, nI_l (by have := hs t (by omega); omega), lN_mul]
      have e : PL s (t + 1) (8 - (t + 1)) * (s t + 1) = PL s t (8 - t) := by
        rw [show 8 - t = (8 - (t + 1)) + 1 by omega, PL, Nat.mul_comm]
      rw [e]
      obtain ⟨M2, e2, q1, q2⟩ := py_wh p1 (lN (PL s t (8 - t)))
      rw [e2, obs]
      have hx' : t = 0 ∧ nI t + (-1) = -1 ∨ 0 < t ∧ nI t + (-1) = nI (t - 1) := by
        by_cases h0 : t = 0
        · subst h0; exact Or.inl ⟨rfl, by decide⟩
        · exact Or.inr ⟨by omega, sb_m1 (by omega)⟩
      obtain ⟨M3, pl3, z1, z2, z3, z4⟩ := ih t M2 _ _ (by omega) hx' q1 (fun u h1 h2 => by
        by_cases he : u = t
        · subst he
          rw [pk_uLs]
          unfold PQ
          rw [show 8 - (u + 1) = 7 - u by omega]
        · rw [pk_uLn he]; exact hp u (by omega) h2) (by omega)
      exact ⟨M3, pl3, z1, z2, (p2.tr q2).tr z3, z4⟩
theorem ts10 (hN : 2 ^ 15 ≤ N) (w : WFK κ) (ws : WFS κ σ) {cf : Nat} (hcf : cf = 4 ∨ cf = 31) {pl wt : Nat → Int64} {lc : List Int32} : ∀ (m k : Nat) (M : Mem) (st : Nat → Int32) (wh : Int64), CfAt M cf κ → StAt M 58 σ → PyAt M st pl wt wh lc → (∀ u, u < 8 → st u = nI (stN κ σ k u)) → k ≤ (κ.2 10).length → (κ.2 10).length - k < m → ∃ M' st' pl', fn_X5_takeStock_10 N m M 378 cf (58 + 5) (nI k) = some ((), M') ∧ PyAt M' st' pl' wt (lN (PL (stA κ σ) 0 8)) lc ∧ Fr M M' 378 384 ∧ (∀ u, u < 8 → st' u = nI (stA κ σ u)) ∧ ∀ u, u < 8 → pl' u = lN (PQ (stA κ σ) u) := by
  have h8 := w.1.2.2.2.2.1
  have hs := ws.1
  obtain ⟨-, -, -, hs8⟩ := stA_fact w ws
  intro m
  induction m with
  | zero => intro k M st wh _ _ _ _ _ h; omega
  | succ m ih =>
    intro k M st wh hC hS h hst hk hm
    rw [fn_X5_takeStock_10.eq_2, row_size hS.r2, obs]
    by_cases he : k = (κ.2 10).length
    · subst he
      rw [if_pos (by rw [hs]; exact Int32.le_refl _)]
      obtain ⟨M1, e1, p1, f1⟩ := py_wh h 1
      rw [e1, obs]
      obtain ⟨M2, pl2, z1, z2, z3, z4⟩ := ts69 (N := N) (s := stA κ σ) hs8 (st := st) (wt := wt) (lc := lc) hst N 8 M1 pl (nI 7) (by omega) (Or.inr ⟨by omega, rfl⟩) p1 (fun u h1 h2 => by omega) (by omega)
      exact ⟨M2, st, pl2, z1, z2, f1.tr z3, hst, z4⟩
    · obtain ⟨t, c, t1, t2, c1, d1, d2, d3, d4⟩ := bin_fact w ws (show k < (κ.2 10).length by omega)
      rw [if_neg (nI_ge (by omega) (by omega)), hC.bt, obs, row_ck hC.r10, obs, row_at hC.r10, b2s, atI_nI (by omega) (by omega), d1, if_neg (nI_pos (by omega)), if_neg (show ¬ (8 : Int32) ≤ nI t from nI_ge (b := 8) t2 (by omega)), ev_gR h.1 rfl, obs, ev_aI h.2.1 t2 (by omega), obs, row_ck hS.r2, obs, row_at hS.r2, b2s, atI_nI (by omega) (by omega), d2, ev_sI h.2.1 t2 (by omega), obs]
      simp only [fn_X5_takeStock_55]
      rw [nI_1, hst t t2, nI_add]
      obtain ⟨p1, p2⟩ := py_st h (upd st t (nI (stN κ σ k t + c)))
      obtain ⟨M2, st2, pl2, z1, z2, z3, z4⟩ := ih (k + 1) _ _ wh (hC.keep p2 (by omega)) (hS.keep p2 (by omega)) p1 (fun u hu => by
        rw [stN, d3, d4]
        by_cases eu : u = t
        · subst eu; rw [pk_us]; simp [va_up]
        · rw [pk_un eu, hst u hu]; simp [va_up, eu]) (by omega) (by omega)
      exact ⟨M2, st2, pl2, z1, z2, p2.tr z3, z4⟩
theorem rd_loop {s n : Nat → Nat} (hn : ∀ u, u < 8 → n u ≤ s u) (hs : ∀ u, u < 8 → s u ≤ 800) (hW : PL s 0 8 < 2 ^ 63) {st : Nat → Int32} {pl wt : Nat → Int64} {wh : Int64} (hp : ∀ u, u < 8 → pl u = lN (PQ s u)) (c : Nat) : ∀ (m t : Nat) (M : Mem), t ≤ 8 → PyAt M st pl wt wh (rgL (fun u => nI (n u)) t) → 8 - t < m → ∃ M', fn_X5_readCoins_46 N m M 378 (lN c) (lN (DG s n t (8 - t))) (nI t) = some (nI c, M') ∧ PyAt M' st pl wt wh (rgL (fun u => nI (n u)) 8) ∧ Fr M M' 378 384 := by
  intro m
  induction m with
  | zero => intro t M _ _ h; omega
  | succ m ih =>
    intro t M ht h hm
    rw [fn_X5_readCoins_46.eq_2]
    by_cases he : t = 8
    · subst he
      rw [if_pos (show (8 : Int32) ≤ nI 8 from Int32.le_refl _), lN_i]
      exact ⟨M, rfl, h, Fr.rf⟩
    · have hq : PQ s t < 2 ^ 63 := Nat.lt_of_le_of_lt (PQ_le (by omega)) hW
      have hq0 : 0 < PQ s t := PL_pos _ _ _
      obtain ⟨r, hr⟩ : ∃ r, 8 - t = r + 1 := ⟨7 - t, by omega⟩
      have hPQ : PQ s t = PL s (t + 1) r := by unfold PQ; rw [show 7 - t = r by omega]
      obtain ⟨g1, g2⟩ := DG_digit (s := s) (n := n) (r := r) (t := t) (fun u h1 h2 => hn u (by omega))
      have hlt := DG_lt (s := s) (n := n) (r + 1) t (fun u h1 h2 => hn u (by omega))
      have hle := PL_mono s t 0 (r + 1)
      rw [Nat.zero_add, show t + (r + 1) = 8 by omega] at hle
      rw [if_neg (show ¬ (8 : Int32) ≤ nI t from nI_ge (b := 8) (by omega) (by omega)), ev_gR h.1 rfl, obs, ev_aL h.2.2.1 (by omega) (by omega), obs, hp t (by omega), if_pos (show 0 ≤ lg_cmp (lN (PQ s t)) 1 from (lg_cmp_ge _ _).mpr ((pk_lLE (a := 1) (b := PQ s t) (by omega) hq).mpr hq0)), ev_gR h.1 rfl, obs, hr]
      unfold mm_dL mm_rL
      have hne : ¬ lN (PQ s t) = 0 := fun q => by have := (pk_lEQ (a := PQ s t) (b := 0) hq (by omega)).mp q; omega
      rw [if_neg hne, obs, row_ck h.2.2.2.2, obs, if_neg hne, pk_lRem (by omega) hq0 hq, pk_lDiv (by omega) hq0 hq, hPQ, g1, g2, lN_i]
      obtain ⟨M1, e1, r1, f1⟩ := row_add (N := N) h.2.2.2.2 (by rw [rgL_len]; omega) (nI (n t))
      rw [e1, b2s, obs, nI_1]
      have h' : PyAt M1 st pl wt wh (rgL (fun u => nI (n u)) (t + 1)) := ⟨by rw [f1.2 378 (by omega)]; exact h.1, by rw [f1.2 379 (by omega)]; exact h.2.1, by rw [f1.2 380 (by omega)]; exact h.2.2.1, by rw [f1.2 381 (by omega)]; exact h.2.2.2.1, by rw [rgL_succ]; exact r1⟩
      obtain ⟨M2, z1, z2, z3⟩ := ih (t + 1) M1 (by omega) h' (by omega)
      rw [show 8 - (t + 1) = r by omega] at z1
      exact ⟨M2, z1, z2, (f1.mono (by omega) (by omega)).tr z3⟩
theorem rd_coins (hN : 2 ^ 15 ≤ N) {s n : Nat → Nat} (hn : ∀ u, u < 8 → n u ≤ s u) (hs : ∀ u, u < 8 → s u ≤ 800) (hW : WT s n + PL s 0 8 < 2 ^ 63) {st : Nat → Int32} {pl wt : Nat → Int64} {lc : List Int32} (hp : ∀ u, u < 8 → pl u = lN (PQ s u)) (h : PyAt M st pl wt (lN (PL s 0 8)) lc) : ∃ M', fn_X5_readCoins N M 378 (lN (WT s n)) = some (nI (SR n 0 8), M') ∧ PyAt M' st pl wt (lN (PL s 0 8)) (rgL (fun u => nI (n u)) 8) ∧ Fr M M' 378 384 := by
  have hp0 := PL_pos s 8 0
  obtain ⟨c1, c2⟩ := WT_count (s := s) (n := n) hn
  unfold fn_X5_readCoins
  have hne : ¬ lN (PL s 0 8) = 0 := fun q => by have := (pk_lEQ (a := PL s 0 8) (b := 0) (by omega) (by omega)).mp q; omega
  rw [ev_gL h.1 rfl, obs, if_pos (show 0 ≤ lg_cmp (lN (PL s 0 8)) 1 from (lg_cmp_ge _ _).mpr ((pk_lLE (a := 1) (b := PL s 0 8) (by omega) (by omega)).mpr hp0)), obs, obs]
  unfold mm_dL
  rw [if_neg hne, lN_add, show (1 : Int64) = lN 1 from rfl, lN_sub (by omega), pk_lDiv (by omega) hp0 (by omega), c1, obs, obs, ev_gR h.1 rfl, obs, row_ck h.2.2.2.2, obs]
  obtain ⟨M1, e1, r1, f1⟩ := row_empty (N := N) h.2.2.2.2
  have hle : WT s n ≤ SR n 0 8 * PL s 0 8 := by have := WT_eq (s := s) (n := n); rw [Nat.mul_comm]; omega
  rw [e1, b2s, lN_mul, lN_sub hle, c2]
  have h' : PyAt M1 st pl wt (lN (PL s 0 8)) (rgL (fun u => nI (n u)) 0) := ⟨by rw [f1.2 378 (by omega)]; exact h.1, by rw [f1.2 379 (by omega)]; exact h.2.1, by rw [f1.2 380 (by omega)]; exact h.2.2.1, by rw [f1.2 381 (by omega)]; exact h.2.2.2.1, r1⟩
  obtain ⟨M2, z1, z2, z3⟩ := rd_loop (N := N) hn hs (by omega) hp (SR n 0 8) N 0 M1 (by omega) h' (by omega)
  rw [nI_0] at z1
  exact ⟨M2, z1, z2, (f1.mono (by omega) (by omega)).tr z3⟩
theorem AtW_0 {s v w : Nat → Nat} {a x : Nat} : AtW s v w 0 a x ↔ a = 0 ∧ x = 0 := by
  constructor
  · rintro ⟨n, -, h2, h3⟩
    exact ⟨h2.symm, h3.symm⟩
  · rintro ⟨rfl, rfl⟩
    exact ⟨fun _ => 0, fun u hu => by omega, rfl, rfl⟩
theorem AtW_skip {s v w : Nat → Nat} {k a x : Nat} (h : s k = 0) : AtW s v w (k + 1) a x ↔ AtW s v w k a x := by
  rw [At_succ, h, Rc_0]
theorem DPs.congr {R R' : Nat → Nat → Prop} {wt : Nat → Int64} {am : Nat} (h : DPs R wt am) (e : ∀ a x, R' a x ↔ R a x) : DPs R' wt am := by
  intro a ha
  obtain ⟨o, o1, o2⟩ := h a ha
  refine ⟨o, ?_, o2⟩
  cases o with
  | none => exact fun x hx => o1 x ((e a x).mp hx)
  | some x => exact ⟨(e a x).mpr o1.1, fun y hy => o1.2 y ((e a y).mp hy)⟩
/-- the end of plan -/
theorem pl_end (hN : 2 ^ 15 ≤ N) {s v : Nat → Nat} {am : Nat} (ham : am ≤ 5000) (hB : BXn s + PL s 0 8 < 2 ^ 63) (hs : ∀ u, u < 8 → s u ≤ 800) {st : Nat → Int32} {pl wt : Nat → Int64} {lc : List Int32} (hp : ∀ u, u < 8 → pl u = lN (PQ s u)) (h : PyAt M st pl wt (lN (PL s 0 8)) lc) (hd : DPs (AtW s v (wN s) 8) wt am) (a1 : Nat) (x3 : Int32) : ∀ m, 0 < m → ∃ M' r lc', fn_X5_plan_40 N m M 378 a1 (nI am) x3 (nI 8) = some (r, M') ∧ PyAt M' st pl wt (lN (PL s 0 8)) lc' ∧ Fr M M' 378 384 ∧ ((r = -2 ∧ ∀ n, ¬ PayV s v n 0 8 am) ∨ ∃ n, PayV s v n 0 8 am ∧ (∀ q, PayV s v q 0 8 am → WT s n ≤ WT s q) ∧ r = nI (SR n 0 8) ∧ lc' = rgL (fun u => nI (n u)) 8) := by
  intro m hm
  obtain ⟨k, rfl⟩ : ∃ k, m = k + 1 := ⟨m - 1, by omega⟩
  rw [fn_X5_plan_40.eq_2, if_pos (show (8 : Int32) ≤ nI 8 from Int32.le_refl _), ev_gR h.1 rfl, obs, ev_aL h.2.2.2.1 (by omega) (by omega), obs]
  obtain ⟨o, o1, o2⟩ := hd am (Nat.le_refl _)
  rw [obs, ev_aL h.2.2.2.1 (by omega) (by omega), obs, o2]
  cases o with
  | none =>
    rw [show encL none = (-1 : Int64) from rfl, if_pos ((lg_cmp_eq _ _).mpr rfl)]
    refine ⟨M, -2, lc, rfl, h, Fr.rf, Or.inl ⟨rfl, fun n hn => o1 _ (AtW_8.mpr ⟨n, hn, rfl⟩)⟩⟩
  | some x =>
    have hx := AtW_bd (Nat.le_refl 8) o1.1
    rw [show encL (some x) = lN x from rfl, if_neg (fun q => lN_ne (show x < 2 ^ 63 by omega) ((lg_cmp_eq _ _).mp q)), ev_ck h.1, obs]
    obtain ⟨n, n1, rfl⟩ := AtW_8.mp o1.1
    obtain ⟨M2, z1, z2, z3⟩ := rd_coins (N := N) hN (s := s) (n := n) (fun u hu => n1.1 u (by omega) (by omega)) hs (by omega) hp h
    rw [z1, b2s]
    exact ⟨M2, _, _, rfl, z2, z3, Or.inr ⟨n, n1, fun q hq => o1.2 _ (AtW_8.mpr ⟨q, hq, rfl⟩), rfl, rfl⟩⟩
theorem pl_loop (hN : 2 ^ 15 ≤ N) (w : WFK κ) {s : Nat → Nat} {am : Nat} (ham : am ≤ 5000) (hB : BXn s + PL s 0 8 < 2 ^ 63) (hs : ∀ u, u < 8 → s u ≤ 800) (hz : ∀ u, (κ.2 0).length ≤ u → s u = 0) {a1 : Nat} (ha1 : a1 + 2 ≤ 378) {st : Nat → Int32} {pl : Nat → Int64} {lc : List Int32} (hst : ∀ u, u < 8 → st u = nI (s u)) (hp : ∀ u, u < 8 → pl u = lN (PQ s u)) : ∀ (m t rc : Nat) (M : Mem) (wt : Nat → Int64), t ≤ 8 → RowAt M a1 8 (κ.2 0) → PyAt M st pl wt (lN (PL s 0 8)) lc → DPs (AtW s (vN κ) (wN s) t) wt am → rc ≤ am → (∀ a x, a ≤ am → AtW s (vN κ) (wN s) t a x → a ≤ rc) → 8 - t < m → ∃ M' r lc' wt', fn_X5_plan_40 N m M 378 a1 (nI am) (nI rc) (nI t) = some (r, M') ∧ PyAt M' st pl wt' (lN (PL s 0 8)) lc' ∧ Fr M M' 378 384 ∧ ((r = -2 ∧ ∀ n, ¬ PayV s (vN κ) n 0 8 am) ∨ ∃ n, PayV s (vN κ) n 0 8 am ∧ (∀ q, PayV s (vN κ) q 0 8 am → WT s n ≤ WT s q) ∧ r = nI (SR n 0 8) ∧ lc' = rgL (fun u => nI (n u)) 8) := by
  have h8 := w.1.1
  intro m
  induction m with
  | zero => intro t rc M wt _ _ _ _ _ _ h; omega
  | succ m ih =>
    intro t rc M wt ht hR h hd hrc hrr hm
    by_cases he : t = 8
    · subst he
      obtain ⟨M', r, lc', z1, z2, z3, z4⟩ := pl_end (N := N) hN ham hB hs hp h hd a1 (nI rc) (m + 1) (by omega)
      exact ⟨M', r, lc', wt, z1, z2, z3, z4⟩
    · rw [fn_X5_plan_40.eq_2, if_neg (show ¬ (8 : Int32) ≤ nI t from nI_ge (b := 8) (by omega) (by omega)), row_ck hR, obs, row_at hR, b2s, ev_gR h.1 rfl, obs, ev_aI h.2.1 (by omega) (by omega), obs, hst t (by omega)]
      simp only [fn_X5_plan_113]
      rw [nI_1]
      by_cases h0 : s t = 0
      · rw [h0, if_pos (show nI 0 ≤ 0 from Int32.le_refl _)]
        exact ih (t + 1) rc M wt (by omega) hR h (hd.congr (fun a x => AtW_skip h0)) hrc (fun a x ha hx => hrr a x ha ((AtW_skip h0).mp hx)) (by omega)
      · have htT : t < (κ.2 0).length := by
          by_cases q : t < (κ.2 0).length
          · exact q
          · exact absurd (hz t (by omega)) h0
        obtain ⟨⟨v, v1, v2, v3⟩, -⟩ := w.2.1 t htT
        have hvN : vN κ t = v := by unfold vN; rw [v3, nI_clamp (by omega)]
        have hs8 := hs t (by omega)
        have hsv : s t * v ≤ 800 * 500 := Nat.mul_le_mul hs8 v2
        rw [if_neg (nI_nle (by omega) (by omega)), atI_nI htT (by omega), v3, if_neg (nI_nle (by omega) (by omega)), obs, ev_aI h.2.1 (by omega) (by omega), obs, hst t (by omega), pk_mul, nI_add]
        have hmin : (if nI (rc + s t * v) < nI am then nI (rc + s t * v) else nI am) = nI (min (rc + s t * v) am) := by
          have hc := nI_ltI (a := rc + s t * v) (b := am) (by omega) (by omega)
          by_cases c : rc + s t * v < am
          · rw [if_pos (hc.mpr c)]; congr 1; omega
          · rw [if_neg (fun q => c (hc.mp q))]; congr 1; omega
        unfold mm_lt
        rw [hmin]
        dsimp only
        rw [obs, ev_aI h.2.1 (by omega) (by omega), obs, ev_gL h.1 rfl, obs, ev_gR h.1 rfl, obs, ev_aL h.2.2.1 (by omega) (by omega), obs, hst t (by omega), hp t (by omega), lN_sub (PQ_le (by omega)), ev_ck h.1, obs]
        have hAt : ∀ a x, AtW s (vN κ) (wN s) (t + 1) a x ↔ Rc (AtW s (vN κ) (wN s) t) v (wN s t) (s t) a x := fun a x => by rw [At_succ, hvN]
        have hrr2 : ∀ a x, a ≤ am → AtW s (vN κ) (wN s) (t + 1) a x → a ≤ min (rc + s t * v) am := by
          intro a x ha hx
          obtain ⟨k, a', x', k1, k2, rfl, -⟩ := (hAt a x).mp hx
          have := hrr a' x' (by omega) k2
          have := Nat.mul_le_mul_right v k1
          omega
        obtain ⟨M1, wt1, z1, z2, z3, z4⟩ := wt_loop (N := N) (R := AtW s (vN κ) (wN s) t) (v := v) (w := wN s t) (s := s t) (am := am) (rc := min (rc + s t * v) am) (BX := BXn s) hN (by omega) (by omega) v2 hs8 (Nat.min_le_right _ _) ham (fun a x hx => AtW_bd (show t + 1 ≤ 8 by omega) ((hAt a x).mpr hx)) (fun a x ha hx => hrr2 a x ha ((hAt a x).mpr hx)) N 0 0 M wt h (by omega) (show 0 = min 0 (s t) by omega) (hd.congr (fun a x => Rc_0)) (by omega)
        have z1' : fn_X5_weighType N M 378 (nI (s t)) (nI v) (lN (PL s 0 8 - PQ s t)) (nI (min (rc + s t * v) am)) = some ((), M1) := z1
        rw [z1', b2s]
        obtain ⟨M2, r, lc2, wt2, y1, y2, y3, y4⟩ := ih (t + 1) (min (rc + s t * v) am) M1 wt1 (by omega) (hR.keep z3 (by omega)) z2 (z4.congr hAt) (Nat.min_le_right _ _) hrr2 (by omega)
        exact ⟨M2, r, lc2, wt2, y1, y2, z3.tr y3, y4⟩
/-- the plan of a payout: none, or the lightest -/
def PlanR (κ : Cf) (σ : St) (am : Nat) (r : Int32) (lc : List Int32) : Prop := (r = -2 ∧ ∀ n, ¬ PayV (stA κ σ) (vN κ) n 0 8 am) ∨ ∃ n, PayV (stA κ σ) (vN κ) n 0 8 am ∧ (∀ q, PayV (stA κ σ) (vN κ) q 0 8 am → WT (stA κ σ) n ≤ WT (stA κ σ) q) ∧ r = nI (SR n 0 8) ∧ lc = rgL (fun u => nI (n u)) 8
theorem x_plan (h : XAt M bf κ σ U sn) (hN : 2 ^ 15 ≤ N) (w : WFK κ) (ws : WFS κ σ) {am : Nat} (ham : am ≤ 5000) : ∃ M' r st pl wt wh lc, fn_X9_planPayout N M 0 (nI am) = some (r, M') ∧ XAt M' bf κ σ U sn ∧ Fr M M' 378 384 ∧ PyAt M' st pl wt wh lc ∧ PlanR κ σ am r lc := by
  obtain ⟨cf, c1, hC, c2⟩ := h.cfg
  obtain ⟨s1, hS⟩ := h.st
  obtain ⟨st, pl, wt, wh, lc, hP⟩ := h.pay
  have h8 := w.1.2.2.2.2.1
  obtain ⟨hz, -, -, hs8⟩ := stA_fact w ws
  unfold fn_X9_planPayout
  rw [h.py, obs, c1, obs, s1, obs, hS.g2, obs, ev_ck hP.1, obs]
  have hT : ∃ M1 st1 pl1, fn_X5_takeStock N M 378 cf (58 + 5) = some ((), M1) ∧ PyAt M1 st1 pl1 wt (lN (PL (stA κ σ) 0 8)) lc ∧ Fr M M1 378 384 ∧ (∀ u, u < 8 → st1 u = nI (stA κ σ u)) ∧ ∀ u, u < 8 → pl1 u = lN (PQ (stA κ σ) u) := by
    unfold fn_X5_takeStock fn_J7_fill_53178
    obtain ⟨f', q1, q2⟩ := fill8 (N := N) N 0 M st hP.2.1 (by omega) (by omega)
    rw [nI_0] at q1
    rw [ev_gR hP.1 rfl, obs, ev_aN hP.2.1 (by omega), obs, q1, b2s]
    obtain ⟨p1, p2⟩ := py_st hP f'
    obtain ⟨M2, st2, pl2, z1, z2, z3, z4⟩ := ts10 (N := N) hN w ws c2 (pl := pl) (wt := wt) (lc := lc) N 0 _ f' wh (hC.keep p2 (by omega)) (hS.keep p2 (by omega)) p1 (fun u hu => by rw [q2 u, if_pos ⟨by omega, hu⟩]; rfl) (by omega) (by omega)
    rw [nI_0] at z1
    exact ⟨M2, st2, pl2, z1, z2, p2.tr z3, z4⟩
  obtain ⟨M1, st1, pl1, e1, p1, f1, hst, hpl⟩ := hT
  rw [e1, b2s]
  have hX1 := h.setPy p1 f1
  clear c1 hC s1 hS
  obtain ⟨cf, c1, hC, c2⟩ := hX1.cfg
  rw [hX1.py, obs, c1, obs, hC.ty, obs, hC.t0, obs, ev_ck p1.1, obs]
  unfold fn_X5_plan
  rw [if_neg (nI_pos (by omega)), if_pos (show nI am ≤ 5000 from nI_le (b := 5000) ham (by omega)), ev_gR p1.1 rfl, obs]
  unfold fn_J7_fill_bad5a
  obtain ⟨f', q1, q2⟩ := fillL (N := N) ham N 0 M1 wt p1.2.2.2.1 (by omega) (by omega)
  rw [nI_0] at q1
  rw [ev_aN p1.2.2.2.1 (by omega), obs, nI_1]
  unfold fn_J7_rangeCheck_23922
  rw [if_pos (show (0 : Int32) ≤ nI (am + 1) from nI_pos' (by omega)), if_pos (by decide), if_pos (nI_le (by omega) (by omega)), b2s, q1, b2s]
  obtain ⟨p2, f2⟩ := py_wt p1 f'
  rw [ev_gR p2.1 rfl, obs, show (0 : Int32) = nI 0 from rfl, ev_sL p2.2.2.2.1 (by omega) (by omega), obs]
  obtain ⟨p3, f3⟩ := py_wt p2 (vp_updL f' 0 0)
  have hd0 : DPs (AtW (stA κ σ) (vN κ) (wN (stA κ σ)) 0) (vp_updL f' 0 0) am := by
    intro a ha
    by_cases e : a = 0
    · subst e
      exact ⟨some 0, ⟨AtW_0.mpr ⟨rfl, rfl⟩, fun y hy => by have := (AtW_0.mp hy).2; omega⟩, by rw [pk_uLs]; rfl⟩
    · refine ⟨none, fun x hx => e (AtW_0.mp hx).1, ?_⟩
      rw [pk_uLn e, q2 a, if_pos (by omega)]
      rfl
  have hfA := f1.tr (f2.tr f3)
  have hR := (hC.r0).keep (f2.tr f3) (show cf + 2 + 2 ≤ 378 ∨ 384 ≤ cf + 2 by omega)
  obtain ⟨M4, r, lc4, wt4, y1, y2, y3, y4⟩ := pl_loop (N := N) hN w ham (BX_lt w ws) hs8 hz (a1 := cf + 2) (by omega) hst hpl N 0 0 _ _ (by omega) hR p3 hd0 (by omega) (fun a x ha hx => by have := (AtW_0.mp hx).1; omega) (by omega)
  rw [y1, b2s]
  exact ⟨M4, r, st1, pl1, wt4, _, lc4, rfl, h.setPy y2 (hfA.tr y3), hfA.tr y3, y2, y4⟩
end XZ
