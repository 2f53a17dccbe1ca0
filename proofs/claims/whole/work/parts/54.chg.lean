/-! PURE: the class's changes -/
abbrev Oc : Type := Int32 × St × List St
def cbI (κ : Cf) (σ : St) (U : List St) (t d a : Int32) : Oc := if hasI (κ.2 0).length t then (if meI d a then (1, (upd (upd σ.1 0 (atI (κ.2 1) t - d)) 1 (atI (κ.2 3) t - a), σ.2), pushU σ U) else (0, σ, U)) else (0, σ, U)
def smI (σ : St) (U : List St) (m : Int32) : Oc := if m < 0 then (-1, σ, U) else if 2000 < m then (-1, σ, U) else (σ.1 2, (upd σ.1 2 m, σ.2), pushU σ U)
def inI (σ : St) (U : List St) (d a : Int32) : Oc := if meI d a then (if (σ.2 0).length < 60 then (nI ((σ.2 0).length + 1), (σ.1, va_up σ.2 0 (σ.2 0 ++ [d * 10000 + a])), pushU σ U) else (-3, σ, U)) else (-1, σ, U)
def cjI (σ : St) (U : List St) : Oc := if σ.1 3 = 0 then (0, σ, U) else (1, (upd σ.1 3 0, va_up σ.2 3 ((σ.2 3).set 3 ((σ.2 3).getD 3 0 + 1))), pushU σ U)
def bgI (κ : Cf) (σ : St) (U : List St) (b : Int32) : Oc := if hasI (κ.2 10).length b then (if atI (σ.2 2) b = 0 then (-2, σ, U) else if (σ.2 5).length < 30 then (nI (σ.2 5).length, (σ.1, va_up (va_up (va_up (va_up σ.2 5 (σ.2 5 ++ [atI (κ.2 10) b])) 6 (σ.2 6 ++ [atI (σ.2 2) b])) 7 (σ.2 7 ++ [-1])) 2 ((σ.2 2).set b.toNatClampNeg ((σ.2 2).getD b.toNatClampNeg 0 + (0 - atI (σ.2 2) b)))), pushU σ U) else (-3, σ, U)) else (-1, σ, U)
def asI (κ : Cf) (σ : St) (U : List St) (d a l : Int32) : Oc := if meI d a then (if l = -1 ∨ hasI (κ.2 0).length l = true then (if (σ.2 8).length < 40 then (nI ((σ.2 8).length + 1), (σ.1, va_up (va_up σ.2 8 (σ.2 8 ++ [d * 10000 + a])) 9 (σ.2 9 ++ [l])), pushU σ U) else (-3, σ, U)) else (-1, σ, U)) else (-1, σ, U)
def udI (σ : St) (U : List St) : Oc := match U with
  | [] => (-2, σ, [])
  | u :: V => (nI V.length, u, V)
/-- audit: what is thrown (0: nothing), and the answer -/
def adI (σ : St) (U : List St) (b x : Int32) : Int32 × Oc := if hasI (σ.2 5).length b then (if x < 0 then (2, 0, σ, U) else if x ≤ 200 then (if atI (σ.2 7) b = -1 then (0, x - atI (σ.2 6) b, (σ.1, va_up σ.2 7 ((σ.2 7).set b.toNatClampNeg x)), pushU σ U) else (3, 0, σ, U)) else (2, 0, σ, U)) else (1, 0, σ, U)
def XO {α : Type} (bf : List Int32) (κ : Cf) (sn : Nat → Option St) (M : Mem) (x : Option (α × Mem)) (o : α × St × List St) : Prop := ∃ M', x = some (o.1, M') ∧ XAt M' bf κ o.2.1 o.2.2 sn ∧ Fr M M' 0 389
section XC
variable {N : Nat} {α : Type} {M : Mem} {bf : List Int32} {κ : Cf} {σ : St} {U : List St} {sn : Nat → Option St} {o : α × St × List St}
theorem XO.ret {r : α} (h : XAt M bf κ σ U sn) (q : o = (r, σ, U)) : XO bf κ sn M (some (r, M)) o := by
  subst q
  exact ⟨M, rfl, h, Fr.rf⟩
theorem XO.fr {M' : Mem} {x : Option (α × Mem)} (hf : Fr M M' 0 389) (h : XO bf κ sn M' x o) : XO bf κ sn M x o := by
  obtain ⟨M2, h1, h2, h3⟩ := h
  exact ⟨M2, h1, h2, hf.tr h3⟩
theorem XO.push {f : Unit → Mem → Option (α × Mem)} (h : XAt M bf κ σ U sn) (k : ∀ M', XAt M' bf κ σ (pushU σ U) sn → XO bf κ sn M' (f () M') o) : XO bf κ sn M ((mm_gR M 0 9 6).bind fun b5 => (mm_gR M 0 9 5).bind fun b6 => (mm_ck M b5 1).bind fun _ => mm_b2 (fn_X1_push N M b5 b6) f) o := by
  obtain ⟨s1, hS⟩ := h.st
  obtain ⟨h1, hH⟩ := h.hi
  obtain ⟨M1, e1, g1, f1⟩ := hi_push (N := N) hH hS (by omega)
  rw [h1, obs, s1, obs, hH.ck, obs, e1, b2s]
  exact XO.fr (f1.mono (by omega) (by omega)) (k M1 (h.setHi g1 f1))
theorem XO.num {j : Nat} {v : Int32} {f : Mem → Option (α × Mem)} (h : XAt M bf κ σ U sn) (hj : j < 5) (h3 : j ≠ 3) (k : ∀ M', XAt M' bf κ (upd σ.1 j v, σ.2) U sn → XO bf κ sn M' (f M') o) : XO bf κ sn M ((mm_pV M 58 7 j (.int v)).bind f) o := by
  obtain ⟨s1, hS⟩ := h.st
  obtain ⟨M1, e1, g1, f1⟩ := hS.num hj v (fun e => absurd e h3)
  rw [e1, obs]
  exact XO.fr (f1.mono (by omega) (by omega)) (k M1 (h.setSt g1 (f1.mono (by omega) (by omega))))
theorem XO.numZ {v : Int32} {f : Mem → Option (α × Mem)} (h : XAt M bf κ σ U sn) (hv : v = 0 ∨ v = 1) (k : ∀ M', XAt M' bf κ (upd σ.1 3 v, σ.2) U sn → XO bf κ sn M' (f M') o) : XO bf κ sn M ((mm_pZ M 58 7 3 v).bind f) o := by
  obtain ⟨s1, hS⟩ := h.st
  obtain ⟨M1, e1, g1, f1⟩ := hS.numZ v hv
  rw [e1, obs]
  exact XO.fr (f1.mono (by omega) (by omega)) (k M1 (h.setSt g1 (f1.mono (by omega) (by omega))))
theorem XO.add0 {v : Int32} {f : Unit → Mem → Option (α × Mem)} (h : XAt M bf κ σ U sn) (hl : (σ.2 0).length < 60) (k : ∀ M', XAt M' bf κ (σ.1, va_up σ.2 0 (σ.2 0 ++ [v])) U sn → XO bf κ sn M' (f () M') o) : XO bf κ sn M (mm_b2 (fn_X6_add N M (58 + 1) v) f) o := by
  obtain ⟨s1, hS⟩ := h.st
  obtain ⟨M1, e1, r1, f1⟩ := row_add (N := N) hS.r0 hl v
  rw [e1, b2s]
  exact XO.fr (f1.mono (by omega) (by omega)) (k M1 (h.setSt (hS.u0 r1 f1) (f1.mono (by omega) (by omega))))
theorem XO.rem0 {j : Nat} {f : Int32 → Mem → Option (α × Mem)} (hN : 2 ^ 15 ≤ N) (h : XAt M bf κ σ U sn) (hl : j < (σ.2 0).length) (k : ∀ M', XAt M' bf κ (σ.1, va_up σ.2 0 ((σ.2 0).eraseIdx j)) U sn → XO bf κ sn M' (f ((σ.2 0).getD j 0) M') o) : XO bf κ sn M (mm_b2 (fn_X6_removeAt N M (58 + 1) (nI j)) f) o := by
  obtain ⟨s1, hS⟩ := h.st
  obtain ⟨M1, e1, r1, f1⟩ := row_rem (N := N) hS.r0 hl hN
  rw [e1, b2s]
  exact XO.fr (f1.mono (by omega) (by omega)) (k M1 (h.setSt (hS.u0 r1 f1) (f1.mono (by omega) (by omega))))
theorem XO.add1 {v : Int32} {f : Unit → Mem → Option (α × Mem)} (h : XAt M bf κ σ U sn) (hl : (σ.2 1).length < 20) (k : ∀ M', XAt M' bf κ (σ.1, va_up σ.2 1 (σ.2 1 ++ [v])) U sn → XO bf κ sn M' (f () M') o) : XO bf κ sn M (mm_b2 (fn_X6_add N M (58 + 3) v) f) o := by
  obtain ⟨s1, hS⟩ := h.st
  obtain ⟨M1, e1, r1, f1⟩ := row_add (N := N) hS.r1 hl v
  rw [e1, b2s]
  exact XO.fr (f1.mono (by omega) (by omega)) (k M1 (h.setSt (hS.u1 r1 f1) (f1.mono (by omega) (by omega))))
theorem XO.rem1 {j : Nat} {f : Int32 → Mem → Option (α × Mem)} (hN : 2 ^ 15 ≤ N) (h : XAt M bf κ σ U sn) (hl : j < (σ.2 1).length) (k : ∀ M', XAt M' bf κ (σ.1, va_up σ.2 1 ((σ.2 1).eraseIdx j)) U sn → XO bf κ sn M' (f ((σ.2 1).getD j 0) M') o) : XO bf κ sn M (mm_b2 (fn_X6_removeAt N M (58 + 3) (nI j)) f) o := by
  obtain ⟨s1, hS⟩ := h.st
  obtain ⟨M1, e1, r1, f1⟩ := row_rem (N := N) hS.r1 hl hN
  rw [e1, b2s]
  exact XO.fr (f1.mono (by omega) (by omega)) (k M1 (h.setSt (hS.u1 r1 f1) (f1.mono (by omega) (by omega))))
theorem XO.inc2 {j : Nat} {v : Int32} {f : Unit → Mem → Option (α × Mem)} (h : XAt M bf κ σ U sn) (hl : j < (σ.2 2).length) (k : ∀ M', XAt M' bf κ (σ.1, va_up σ.2 2 ((σ.2 2).set j ((σ.2 2).getD j 0 + v))) U sn → XO bf κ sn M' (f () M') o) : XO bf κ sn M (mm_b2 (fn_X6_increase N M (58 + 5) (nI j) v) f) o := by
  obtain ⟨s1, hS⟩ := h.st
  obtain ⟨M1, e1, r1, f1⟩ := row_inc (N := N) hS.r2 hl v
  rw [e1, b2s]
  exact XO.fr (f1.mono (by omega) (by omega)) (k M1 (h.setSt (hS.u2 r1 f1) (f1.mono (by omega) (by omega))))
theorem XO.inc3 {j : Nat} {v : Int32} {f : Unit → Mem → Option (α × Mem)} (h : XAt M bf κ σ U sn) (hl : j < (σ.2 3).length) (k : ∀ M', XAt M' bf κ (σ.1, va_up σ.2 3 ((σ.2 3).set j ((σ.2 3).getD j 0 + v))) U sn → XO bf κ sn M' (f () M') o) : XO bf κ sn M (mm_b2 (fn_X6_increase N M (58 + 7) (nI j) v) f) o := by
  obtain ⟨s1, hS⟩ := h.st
  obtain ⟨M1, e1, r1, f1⟩ := row_inc (N := N) hS.r3 hl v
  rw [e1, b2s]
  exact XO.fr (f1.mono (by omega) (by omega)) (k M1 (h.setSt (hS.u3 r1 f1) (f1.mono (by omega) (by omega))))
theorem XO.add5 {v : Int32} {f : Unit → Mem → Option (α × Mem)} (h : XAt M bf κ σ U sn) (hl : (σ.2 5).length < 30) (k : ∀ M', XAt M' bf κ (σ.1, va_up σ.2 5 (σ.2 5 ++ [v])) U sn → XO bf κ sn M' (f () M') o) : XO bf κ sn M (mm_b2 (fn_X6_add N M (58 + 11) v) f) o := by
  obtain ⟨s1, hS⟩ := h.st
  obtain ⟨M1, e1, r1, f1⟩ := row_add (N := N) hS.r5 hl v
  rw [e1, b2s]
  exact XO.fr (f1.mono (by omega) (by omega)) (k M1 (h.setSt (hS.u5 r1 f1) (f1.mono (by omega) (by omega))))
theorem XO.add6 {v : Int32} {f : Unit → Mem → Option (α × Mem)} (h : XAt M bf κ σ U sn) (hl : (σ.2 6).length < 30) (k : ∀ M', XAt M' bf κ (σ.1, va_up σ.2 6 (σ.2 6 ++ [v])) U sn → XO bf κ sn M' (f () M') o) : XO bf κ sn M (mm_b2 (fn_X6_add N M (58 + 13) v) f) o := by
  obtain ⟨s1, hS⟩ := h.st
  obtain ⟨M1, e1, r1, f1⟩ := row_add (N := N) hS.r6 hl v
  rw [e1, b2s]
  exact XO.fr (f1.mono (by omega) (by omega)) (k M1 (h.setSt (hS.u6 r1 f1) (f1.mono (by omega) (by omega))))
theorem XO.add7 {v : Int32} {f : Unit → Mem → Option (α × Mem)} (h : XAt M bf κ σ U sn) (hl : (σ.2 7).length < 30) (k : ∀ M', XAt M' bf κ (σ.1, va_up σ.2 7 (σ.2 7 ++ [v])) U sn → XO bf κ sn M' (f () M') o) : XO bf κ sn M (mm_b2 (fn_X6_add N M (58 + 15) v) f) o := by
  obtain ⟨s1, hS⟩ := h.st
  obtain ⟨M1, e1, r1, f1⟩ := row_add (N := N) hS.r7 hl v
  rw [e1, b2s]
  exact XO.fr (f1.mono (by omega) (by omega)) (k M1 (h.setSt (hS.u7 r1 f1) (f1.mono (by omega) (by omega))))
theorem XO.put7 {j : Nat} {v : Int32} {f : Unit → Mem → Option (α × Mem)} (h : XAt M bf κ σ U sn) (hl : j < (σ.2 7).length) (k : ∀ M', XAt M' bf κ (σ.1, va_up σ.2 7 ((σ.2 7).set j v)) U sn → XO bf κ sn M' (f () M') o) : XO bf κ sn M (mm_b2 (fn_X6_put N M (58 + 15) (nI j) v) f) o := by
  obtain ⟨s1, hS⟩ := h.st
  obtain ⟨M1, e1, r1, f1⟩ := row_put (N := N) hS.r7 hl v
  rw [e1, b2s]
  exact XO.fr (f1.mono (by omega) (by omega)) (k M1 (h.setSt (hS.u7 r1 f1) (f1.mono (by omega) (by omega))))
theorem XO.add8 {v : Int32} {f : Unit → Mem → Option (α × Mem)} (h : XAt M bf κ σ U sn) (hl : (σ.2 8).length < 40) (k : ∀ M', XAt M' bf κ (σ.1, va_up σ.2 8 (σ.2 8 ++ [v])) U sn → XO bf κ sn M' (f () M') o) : XO bf κ sn M (mm_b2 (fn_X6_add N M (58 + 17) v) f) o := by
  obtain ⟨s1, hS⟩ := h.st
  obtain ⟨M1, e1, r1, f1⟩ := row_add (N := N) hS.r8 hl v
  rw [e1, b2s]
  exact XO.fr (f1.mono (by omega) (by omega)) (k M1 (h.setSt (hS.u8 r1 f1) (f1.mono (by omega) (by omega))))
theorem XO.add9 {v : Int32} {f : Unit → Mem → Option (α × Mem)} (h : XAt M bf κ σ U sn) (hl : (σ.2 9).length < 40) (k : ∀ M', XAt M' bf κ (σ.1, va_up σ.2 9 (σ.2 9 ++ [v])) U sn → XO bf κ sn M' (f () M') o) : XO bf κ sn M (mm_b2 (fn_X6_add N M (58 + 19) v) f) o := by
  obtain ⟨s1, hS⟩ := h.st
  obtain ⟨M1, e1, r1, f1⟩ := row_add (N := N) hS.r9 hl v
  rw [e1, b2s]
  exact XO.fr (f1.mono (by omega) (by omega)) (k M1 (h.setSt (hS.u9 r1 f1) (f1.mono (by omega) (by omega))))
end XC
section XD
variable {N : Nat} {M : Mem} {bf : List Int32} {κ : Cf} {σ : St} {U : List St} {sn : Nat → Option St}
theorem x_calibrate (h : XAt M bf κ σ U sn) (t d a : Int32) : XO bf κ sn M (fn_X9_calibrate N M 0 t d a) (cbI κ σ U t d a) := by
  unfold fn_X9_calibrate cbI
  rw [h.ck, obs, x_isType h, b2s, ev_meI, b2s]
  by_cases h1 : hasI (κ.2 0).length t = true
  · rw [if_pos h1, if_pos h1, if_neg (by decide)]
    by_cases h2 : meI d a = true
    · rw [if_pos h2, if_pos h2, if_neg (by decide)]
      refine XO.push h fun M1 h1 => ?_
      obtain ⟨cf, c1, hC, c2⟩ := h1.cfg
      obtain ⟨s1, hS⟩ := h1.st
      rw [s1, obs, c1, obs, hC.ty, obs, hC.t1, obs, row_ck hC.r1, obs, row_at hC.r1, b2s]
      refine XO.num h1 (by decide) (by decide) fun M2 h2 => ?_
      obtain ⟨cf, c1, hC, c2⟩ := h2.cfg
      obtain ⟨s1, hS⟩ := h2.st
      rw [s1, obs, c1, obs, hC.ty, obs, hC.t3, obs, row_ck hC.r3, obs, row_at hC.r3, b2s]
      exact XO.num h2 (by decide) (by decide) fun M3 h3 => XO.ret h3 rfl
    · rw [if_neg h2, if_neg h2, if_pos rfl]
      exact XO.ret h rfl
  · rw [if_neg h1, if_neg h1, if_pos rfl]
    exact XO.ret h rfl
theorem x_setMargin (h : XAt M bf κ σ U sn) (m : Int32) : XO bf κ sn M (fn_X9_setMargin N M 0 m) (smI σ U m) := by
  unfold fn_X9_setMargin smI
  rw [ev_isMargin, b2s]
  by_cases h1 : m < 0
  · rw [if_pos h1, if_pos h1, if_pos rfl]
    exact XO.ret h rfl
  · rw [if_neg h1, if_neg h1]
    by_cases h2 : 2000 < m
    · rw [if_pos h2, if_pos h2, if_pos rfl]
      exact XO.ret h rfl
    · rw [if_neg h2, if_neg h2, if_neg (by decide)]
      refine XO.push h fun M1 h1 => ?_
      obtain ⟨s1, hS⟩ := h1.st
      rw [s1, obs, hS.gI (show 2 < 5 by decide), obs, obs]
      exact XO.num h1 (by decide) (by decide) fun M3 h3 => XO.ret h3 rfl
theorem x_insert (h : XAt M bf κ σ U sn) (d a : Int32) : XO bf κ sn M (fn_X9_insert N M 0 d a) (inI σ U d a) := by
  unfold fn_X9_insert inI
  rw [ev_meI, b2s]
  by_cases h2 : meI d a = true
  · rw [if_pos h2, if_pos h2, if_neg (by decide)]
    obtain ⟨s1, hS⟩ := h.st
    rw [s1, obs, hS.g0, obs, row_ck hS.r0, obs, row_isFull hS.r0, b2s]
    by_cases h3 : (σ.2 0).length < 60
    · rw [if_pos h3, if_pos h3, if_pos rfl]
      refine XO.push h fun M1 h1 => ?_
      obtain ⟨s1, hS⟩ := h1.st
      unfold fn_X9_coinOf
      rw [s1, obs, hS.g0, obs, b2s, row_ck hS.r0, obs]
      refine XO.add0 h1 h3 fun M2 h2 => ?_
      obtain ⟨s1, hS⟩ := h2.st
      rw [s1, obs, hS.g0, obs, row_size hS.r0, obs]
      refine XO.ret h2 ?_
      have e : (va_up σ.2 0 (σ.2 0 ++ [d * 10000 + a]) 0).length = (σ.2 0).length + 1 := by
        show (σ.2 0 ++ [d * 10000 + a]).length = _
        rw [List.length_append]
        rfl
      rw [← e]
    · rw [if_neg h3, if_neg h3, if_neg (by decide)]
      exact XO.ret h rfl
  · rw [if_neg h2, if_neg h2, if_pos rfl]
    exact XO.ret h rfl
theorem x_clearJam (h : XAt M bf κ σ U sn) (hl : (σ.2 3).length = 4) : XO bf κ sn M (fn_X9_clearJam N M 0) (cjI σ U) := by
  unfold fn_X9_clearJam cjI
  obtain ⟨s1, hS⟩ := h.st
  rw [s1, obs, hS.gI (show 3 < 5 by decide), obs]
  by_cases h1 : σ.1 3 = 0
  · rw [if_pos h1, if_pos h1]
    exact XO.ret h rfl
  · rw [if_neg h1, if_neg h1, ← s1]
    refine XO.push h fun M1 h1 => ?_
    obtain ⟨s1, hS⟩ := h1.st
    rw [s1, obs]
    refine XO.numZ h1 (Or.inl rfl) fun M2 h2 => ?_
    obtain ⟨s1, hS⟩ := h2.st
    rw [s1, obs, hS.g3, obs, ev_rejI, b2s, row_ck hS.r3, obs, show rejI 24 = nI 3 by decide]
    exact XO.inc3 h2 (show 3 < (σ.2 3).length by omega) fun M3 h3 => XO.ret h3 rfl
theorem x_changeBag (h : XAt M bf κ σ U sn) (w : WFK κ) (ws : WFS κ σ) (e6 : (σ.2 6).length = (σ.2 5).length) (e7 : (σ.2 7).length = (σ.2 5).length) (b : Int32) : XO bf κ sn M (fn_X9_changeBag N M 0 b) (bgI κ σ U b) := by
  have h8 := w.1.2.2.2.2.1
  have hs := ws.1
  unfold fn_X9_changeBag bgI
  obtain ⟨cf, c1, hC, c2⟩ := h.cfg
  obtain ⟨s1, hS⟩ := h.st
  rw [c1, obs, hC.bt, obs, row_ck hC.r10, obs, row_has hC.r10, b2s]
  by_cases h1 : hasI (κ.2 10).length b = true
  · rw [if_pos h1, if_pos h1, if_neg (by decide), s1, obs, hS.g2, obs, row_ck hS.r2, obs, row_at hS.r2, b2s]
    by_cases h2 : atI (σ.2 2) b = 0
    · rw [if_pos h2, if_pos h2]
      exact XO.ret h rfl
    · rw [if_neg h2, if_neg h2, s1, obs, hS.g5, obs, row_ck hS.r5, obs, row_isFull hS.r5, b2s]
      by_cases h3 : (σ.2 5).length < 30
      · rw [if_pos h3, if_pos h3, if_pos rfl]
        obtain ⟨j, hj, rfl⟩ := hasI_of h1 (by omega)
        rw [nI_clamp (by omega)]
        refine XO.push h fun M1 h1 => ?_
        clear c1 hC s1 hS
        obtain ⟨cf, c1, hC, c2⟩ := h1.cfg
        obtain ⟨s1, hS⟩ := h1.st
        rw [s1, obs, hS.g5, obs, c1, obs, hC.bt, obs, row_ck hC.r10, obs, row_at hC.r10, b2s, row_ck hS.r5, obs]
        refine XO.add5 h1 h3 fun M2 h2 => ?_
        obtain ⟨s1, hS⟩ := h2.st
        rw [s1, obs, hS.g6, obs, row_ck hS.r6, obs]
        refine XO.add6 h2 (show (σ.2 6).length < 30 by omega) fun M3 h3 => ?_
        obtain ⟨s1, hS⟩ := h3.st
        rw [s1, obs, hS.g7, obs, row_ck hS.r7, obs]
        refine XO.add7 h3 (show (σ.2 7).length < 30 by omega) fun M4 h4 => ?_
        obtain ⟨s1, hS⟩ := h4.st
        rw [s1, obs, hS.g2, obs, row_ck hS.r2, obs]
        refine XO.inc2 h4 (show j < (σ.2 2).length by omega) fun M5 h5 => ?_
        obtain ⟨s1, hS⟩ := h5.st
        rw [s1, obs, hS.g5, obs, row_size hS.r5, obs]
        refine XO.ret h5 ?_
        have e : (va_up (va_up (va_up (va_up σ.2 5 (σ.2 5 ++ [atI (κ.2 10) (nI j)])) 6 (σ.2 6 ++ [atI (σ.2 2) (nI j)])) 7 (σ.2 7 ++ [-1])) 2 ((σ.2 2).set j ((σ.2 2).getD j 0 + (0 - atI (σ.2 2) (nI j)))) 5).length = (σ.2 5).length + 1 := by
          show (σ.2 5 ++ [atI (κ.2 10) (nI j)]).length = _
          rw [List.length_append]
          rfl
        have e2 : nI ((σ.2 5).length + 1) - 1 = nI (σ.2 5).length := nI_pred _
        rw [← e2, ← e]
        rfl
      · rw [if_neg h3, if_neg h3, if_neg (by decide)]
        exact XO.ret h rfl
  · rw [if_neg h1, if_neg h1, if_pos rfl]
    exact XO.ret h rfl
theorem x_addSample (h : XAt M bf κ σ U sn) (e9 : (σ.2 9).length = (σ.2 8).length) (d a l : Int32) : XO bf κ sn M (fn_X9_addSample N M 0 d a l) (asI κ σ U d a l) := by
  unfold fn_X9_addSample asI
  rw [ev_meI, b2s]
  by_cases h2 : meI d a = true
  · rw [if_pos h2, if_pos h2, if_neg (by decide)]
    have main : XO bf κ sn M (fn_X9_addSample_23 N M 0 d a l) (if (σ.2 8).length < 40 then (nI ((σ.2 8).length + 1), (σ.1, va_up (va_up σ.2 8 (σ.2 8 ++ [d * 10000 + a])) 9 (σ.2 9 ++ [l])), pushU σ U) else (-3, σ, U)) := by
      unfold fn_X9_addSample_23
      obtain ⟨s1, hS⟩ := h.st
      rw [s1, obs, hS.g8, obs, row_ck hS.r8, obs, row_isFull hS.r8, b2s]
      by_cases h3 : (σ.2 8).length < 40
      · rw [if_pos h3, if_pos h3, if_pos rfl]
        refine XO.push h fun M1 h1 => ?_
        obtain ⟨s1, hS⟩ := h1.st
        unfold fn_X9_coinOf
        rw [s1, obs, hS.g8, obs, b2s, row_ck hS.r8, obs]
        refine XO.add8 h1 h3 fun M2 h2 => ?_
        obtain ⟨s1, hS⟩ := h2.st
        rw [s1, obs, hS.g9, obs, row_ck hS.r9, obs]
        refine XO.add9 h2 (show (σ.2 9).length < 40 by omega) fun M3 h3 => ?_
        obtain ⟨s1, hS⟩ := h3.st
        rw [s1, obs, hS.g8, obs, row_size hS.r8, obs]
        refine XO.ret h3 ?_
        have e : (va_up (va_up σ.2 8 (σ.2 8 ++ [d * 10000 + a])) 9 (σ.2 9 ++ [l]) 8).length = (σ.2 8).length + 1 := by
          show (σ.2 8 ++ [d * 10000 + a]).length = _
          rw [List.length_append]
          rfl
        rw [← e]
        rfl
      · rw [if_neg h3, if_neg h3, if_neg (by decide)]
        exact XO.ret h rfl
    by_cases h4 : l = -1
    · rw [if_pos h4, if_pos (Or.inl h4)]
      exact main
    · rw [if_neg h4, h.ck, obs, x_isType h, b2s]
      by_cases h5 : hasI (κ.2 0).length l = true
      · rw [if_pos h5, if_neg (by decide), if_pos (Or.inr h5)]
        exact main
      · rw [if_neg h5, if_pos rfl, if_neg (by intro q; rcases q with q | q; exact h4 q; exact h5 q)]
        exact XO.ret h rfl
  · rw [if_neg h2, if_neg h2, if_pos rfl]
    exact XO.ret h rfl
theorem x_undo (h : XAt M bf κ σ U sn) : XO bf κ sn M (fn_X9_undo N M 0) (udI σ U) := by
  unfold fn_X9_undo
  obtain ⟨s1, hS⟩ := h.st
  obtain ⟨h1, hH⟩ := h.hi
  rw [h1, obs, s1, obs, hH.ck, obs]
  cases U with
  | nil =>
    rw [hi_pop0 hH, b2s, if_pos rfl]
    exact XO.ret h rfl
  | cons u V =>
    obtain ⟨M1, e1, g1, g2, g3, g4⟩ := hi_pop (N := N) hH hS (by omega)
    rw [e1, b2s, if_neg (by decide)]
    have hX : XAt M1 bf κ u V sn := by
      obtain ⟨cf, sp, κ', k1, k2, k3, k4, k5, k6, k7, k8, k9⟩ := h
      have fa : Fr M M1 58 333 := ⟨g3, fun b hb => g4 b (by omega) (by omega)⟩
      exact ⟨cf, sp, κ', by rw [fa.2 0 (by omega)]; exact k1, k2, k3.keep fa (by omega), k4.keep fa (by omega), k5.keep fa (by omega), g2, g1, k8.keep fa (by omega), k9.keep fa (by omega)⟩
    obtain ⟨i1, iH⟩ := hX.hi
    rw [i1, obs, iH.cnt, obs]
    exact ⟨M1, rfl, hX, ⟨g3, fun b hb => g4 b (by omega) (by omega)⟩⟩
theorem x_audit0 (h : XAt M bf κ σ U sn) (e6 : (σ.2 6).length = (σ.2 5).length) (e7 : (σ.2 7).length = (σ.2 5).length) (b x : Int32) (h0 : (adI σ U b x).1 = 0) : XO bf κ sn M (fn_X9_audit N M 0 b x) (adI σ U b x).2 := by
  unfold fn_X9_audit
  obtain ⟨s1, hS⟩ := h.st
  have hl := row_len hS.r5
  rw [s1, obs, hS.g5, obs, row_ck hS.r5, obs, row_has hS.r5, b2s]
  by_cases h1 : hasI (σ.2 5).length b = true
  · rw [if_pos h1, if_neg (by decide)]
    by_cases h2 : x < 0
    · have e : adI σ U b x = (2, 0, σ, U) := by unfold adI; rw [if_pos h1, if_pos h2]
      rw [e] at h0
      exact absurd h0 (show ¬ (2 : Int32) = 0 by decide)
    · rw [if_neg h2]
      by_cases h3 : x ≤ 200
      · rw [if_pos h3, s1, obs, hS.g7, obs, row_ck hS.r7, obs, row_at hS.r7, b2s]
        by_cases h4 : atI (σ.2 7) b = -1
        · have e : adI σ U b x = (0, x - atI (σ.2 6) b, (σ.1, va_up σ.2 7 ((σ.2 7).set b.toNatClampNeg x)), pushU σ U) := by unfold adI; rw [if_pos h1, if_neg h2, if_pos h3, if_pos h4]
          rw [if_pos h4, e]
          obtain ⟨j, hj, rfl⟩ := hasI_of h1 (by omega)
          rw [nI_clamp (by omega)]
          refine XO.push h fun M1 h1 => ?_
          obtain ⟨s1, hS⟩ := h1.st
          rw [s1, obs, hS.g7, obs, row_ck hS.r7, obs]
          refine XO.put7 h1 (show j < (σ.2 7).length by omega) fun M2 h2 => ?_
          obtain ⟨s1, hS⟩ := h2.st
          rw [s1, obs, hS.g6, obs, row_ck hS.r6, obs, row_at hS.r6, b2s]
          exact XO.ret h2 rfl
        · have e : adI σ U b x = (3, 0, σ, U) := by unfold adI; rw [if_pos h1, if_neg h2, if_pos h3, if_neg h4]
          rw [e] at h0
          exact absurd h0 (show ¬ (3 : Int32) = 0 by decide)
      · have e : adI σ U b x = (2, 0, σ, U) := by unfold adI; rw [if_pos h1, if_neg h2, if_neg h3]
        rw [e] at h0
        exact absurd h0 (show ¬ (2 : Int32) = 0 by decide)
  · have e : adI σ U b x = (1, 0, σ, U) := by unfold adI; rw [if_neg h1]
    rw [e] at h0
    exact absurd h0 (show ¬ (1 : Int32) = 0 by decide)
theorem x_auditN (h : XAt M bf κ σ U sn) (b x : Int32) (h0 : ¬ (adI σ U b x).1 = 0) : fn_X9_audit N M 0 b x = none ∧ fn_X9_auditT N M 0 b x = some ((adI σ U b x).1, M) ∧ (adI σ U b x).2.2 = (σ, U) := by
  unfold fn_X9_audit fn_X9_auditT
  obtain ⟨s1, hS⟩ := h.st
  have hl := row_len hS.r5
  simp only [s1, obs, hS.g5, row_ck hS.r5, row_has hS.r5, b2s]
  by_cases h1 : hasI (σ.2 5).length b = true
  · simp only [if_pos h1, if_neg (show ¬ (1 : Int32) = 0 by decide)]
    by_cases h2 : x < 0
    · have e : adI σ U b x = (2, 0, σ, U) := by unfold adI; rw [if_pos h1, if_pos h2]
      rw [if_pos h2, if_pos h2, e]
      exact ⟨rfl, rfl, rfl⟩
    · rw [if_neg h2, if_neg h2]
      by_cases h3 : x ≤ 200
      · rw [if_pos h3, if_pos h3]
        simp only [s1, obs, hS.g7, row_ck hS.r7, row_at hS.r7, b2s]
        by_cases h4 : atI (σ.2 7) b = -1
        · have e : adI σ U b x = (0, x - atI (σ.2 6) b, (σ.1, va_up σ.2 7 ((σ.2 7).set b.toNatClampNeg x)), pushU σ U) := by unfold adI; rw [if_pos h1, if_neg h2, if_pos h3, if_pos h4]
          rw [e] at h0
          exact absurd rfl h0
        · have e : adI σ U b x = (3, 0, σ, U) := by unfold adI; rw [if_pos h1, if_neg h2, if_pos h3, if_neg h4]
          rw [if_neg h4, if_neg h4, e]
          exact ⟨rfl, rfl, rfl⟩
      · have e : adI σ U b x = (2, 0, σ, U) := by unfold adI; rw [if_pos h1, if_neg h2, if_neg h3]
        rw [if_neg h3, if_neg h3, e]
        exact ⟨rfl, rfl, rfl⟩
  · have e : adI σ U b x = (1, 0, σ, U) := by unfold adI; rw [if_neg h1]
    simp only [if_neg h1]
    rw [if_pos trivial, if_pos trivial, e]
    exact ⟨rfl, rfl, rfl⟩
end XD
