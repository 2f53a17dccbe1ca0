/-! PURE: what a good statement makes of a configuration -/
theorem ng_of {v : Int32} {a b : Nat} (ha : a < 2 ^ 31) (hb : b < 2 ^ 31) (h1 : ¬ v < nI a) (h2 : v ≤ nI b) : Ng a b v := by
  have h0 : ¬ v < 0 := by
    intro q
    apply h1
    have q1 := Int32.lt_iff_toInt_lt.mp q
    rw [show (0 : Int32).toInt = 0 from rfl] at q1
    apply Int32.lt_iff_toInt_lt.mpr
    rw [nI_toInt ha]
    omega
  obtain ⟨j, j1, rfl⟩ := nI_of2 (x := v) (M := nI b) (n := b) (nI_toInt hb) h0 h2
  refine ⟨j, ?_, j1, rfl⟩
  by_cases q : a ≤ j
  · exact q
  · exact absurd (nI_lt (show j < a by omega) ha) h1
theorem adR_ok {κ : Cf} {r : Nat} {x : Int32} (h : (κ.2 r).length < capK r) : adR κ r x = (κ.1, va_up κ.2 r (κ.2 r ++ [x])) := by
  unfold adR
  rw [if_pos h]
theorem rdA_ok {tb : Nat → Int32} {n r : Nat} {lo hi : Int32} {p : Ps} {κ : Cf} (h : (κ.2 r).length < capK r) : rdA tb n r lo hi (p, κ) = ((rdN tb n p lo hi).1, (κ.1, va_up κ.2 r (κ.2 r ++ [(rdN tb n p lo hi).2]))) := by
  unfold rdA
  rw [adR_ok (κ := (p, κ).2) h]
theorem all5 {P : Nat → Prop} (h0 : P 0) (h1 : P 1) (h2 : P 2) (h3 : P 3) (h4 : P 4) : ∀ r, r < 5 → P r := by
  intro r hr
  rcases (show r = 0 ∨ r = 1 ∨ r = 2 ∨ r = 3 ∨ r = 4 by omega) with rfl | rfl | rfl | rfl | rfl <;> assumption
theorem rdN_er {tb : Nat → Int32} {n : Nat} {p : Ps} {lo hi : Int32} (h : ¬ p.1 = 0) : rdN tb n p lo hi = (p, lo) := by
  unfold rdN
  rw [if_neg h]
theorem failS_f {p : Ps} {k : Nat} : failS p false k = p := rfl
theorem failS_ok {p : Ps} {b : Bool} {k : Nat} (hk : 1 ≤ k) (h : (failS p b k).1 = 0) : b = false ∧ p.1 = 0 := by
  unfold failS at h
  cases b with
  | false => exact ⟨rfl, h⟩
  | true =>
    rw [if_pos rfl] at h
    by_cases q : p.1 = 0
    · rw [if_pos q] at h
      have : 8 * p.2.1 + k = 0 := h
      omega
    · rw [if_neg q] at h
      exact absurd h q
theorem gA {l : List Int32} {v : Int32} {i : Nat} (h : i < l.length) : (l ++ [v]).getD i 0 = l.getD i 0 := by
  simp [List.getD_eq_getElem?_getD, List.getElem?_append_left h]
theorem gB {l : List Int32} {v : Int32} {i : Nat} (h : i = l.length) : (l ++ [v]).getD i 0 = v := by
  subst h
  simp
/-- the five readings of a kind -/
def kq (tb : Nat → Int32) (n : Nat) (hv : Bool) (p : Ps) : Nat → Ps × Int32
  | 0 => if hv then rdN tb n p 1 500 else (p, 0)
  | 1 => rdN tb n (if hv then rdN tb n p 1 500 else (p, 0)).1 1000 4000
  | 2 => rdN tb n (rdN tb n (if hv then rdN tb n p 1 500 else (p, 0)).1 1000 4000).1 1 200
  | 3 => rdN tb n (rdN tb n (rdN tb n (if hv then rdN tb n p 1 500 else (p, 0)).1 1000 4000).1 1 200).1 0 9999
  | _ => rdN tb n (rdN tb n (rdN tb n (rdN tb n (if hv then rdN tb n p 1 500 else (p, 0)).1 1000 4000).1 1 200).1 0 9999).1 1 500
theorem kq_ok {tb : Nat → Int32} {n : Nat} {hv : Bool} {p : Ps} (h : (kq tb n hv p 4).1.1 = 0) : p.1 = 0 ∧ (kq tb n hv p 0).1.1 = 0 ∧ (kq tb n hv p 1).1.1 = 0 ∧ (kq tb n hv p 2).1.1 = 0 ∧ (kq tb n hv p 3).1.1 = 0 ∧ (hv = true → Ng 1 500 (kq tb n hv p 0).2) ∧ Ng 1000 4000 (kq tb n hv p 1).2 ∧ Ng 1 200 (kq tb n hv p 2).2 ∧ Ng 0 9999 (kq tb n hv p 3).2 ∧ Ng 1 500 (kq tb n hv p 4).2 := by
  have e4 : kq tb n hv p 4 = rdN tb n (kq tb n hv p 3).1 1 500 := rfl
  have e3 : kq tb n hv p 3 = rdN tb n (kq tb n hv p 2).1 0 9999 := rfl
  have e2 : kq tb n hv p 2 = rdN tb n (kq tb n hv p 1).1 1 200 := rfl
  have e1 : kq tb n hv p 1 = rdN tb n (kq tb n hv p 0).1 1000 4000 := rfl
  have h4 := h
  rw [e4] at h4
  obtain ⟨a3, -, a4, a5, a6, -⟩ := rdN_ok h4
  have h3 := a3
  rw [e3] at h3
  obtain ⟨b2, -, b4, b5, b6, -⟩ := rdN_ok h3
  have h2 := b2
  rw [e2] at h2
  obtain ⟨c1, -, c4, c5, c6, -⟩ := rdN_ok h2
  have h1 := c1
  rw [e1] at h1
  obtain ⟨d0, -, d4, d5, d6, -⟩ := rdN_ok h1
  have hp : p.1 = 0 ∧ (hv = true → Ng 1 500 (kq tb n hv p 0).2) := by
    cases hv with
    | true =>
      have d0' : (rdN tb n p 1 500).1.1 = 0 := d0
      obtain ⟨f0, -, f4, f5, f6, -⟩ := rdN_ok d0'
      refine ⟨f0, fun _ => ?_⟩
      show Ng 1 500 (rdN tb n p 1 500).2
      rw [f6]
      exact ng_of (by decide) (by decide) f4 f5
    | false => exact ⟨d0, fun z => by cases z⟩
  refine ⟨hp.1, d0, c1, b2, a3, hp.2, ?_, ?_, ?_, ?_⟩
  · rw [e1, d6]; exact ng_of (by decide) (by decide) d4 d5
  · rw [e2, c6]; exact ng_of (by decide) (by decide) c4 c5
  · rw [e3, b6]; exact ng_of (by decide) (by decide) b4 b5
  · rw [e4, a6]; exact ng_of (by decide) (by decide) a4 a5
theorem kdT_eq {tb : Nat → Int32} {n : Nat} {p : Ps} {κ : Cf} (hl : (κ.2 0).length < 8) (he : ∀ r, r < 5 → (κ.2 (0 + r)).length = (κ.2 0).length) : kdS tb n 0 true p κ = ((kq tb n true p 4).1, (κ.1, va_up (va_up (va_up (va_up (va_up (κ.2) 0 (κ.2 0 ++ [(kq tb n true p 0).2])) 1 (κ.2 1 ++ [(kq tb n true p 1).2])) 2 (κ.2 2 ++ [(kq tb n true p 2).2])) 3 (κ.2 3 ++ [(kq tb n true p 3).2])) 4 (κ.2 4 ++ [(kq tb n true p 4).2]))) := by
  have h1 : (κ.2 1).length = (κ.2 0).length := he 1 (by omega)
  have h2 : (κ.2 2).length = (κ.2 0).length := he 2 (by omega)
  have h3 : (κ.2 3).length = (κ.2 0).length := he 3 (by omega)
  have h4 : (κ.2 4).length = (κ.2 0).length := he 4 (by omega)
  unfold kdS
  have hd : (!decide ((κ.2 0).length < capK 0)) = false := by
    have : (κ.2 0).length < capK 0 := hl
    simp [this]
  rw [hd, failS_f]
  show rdA tb n 4 1 500 (rdA tb n 3 0 9999 (rdA tb n 2 1 200 (rdA tb n 1 1000 4000 (rdA tb n 0 1 500 (p, κ))))) = _
  have s0 : rdA tb n 0 1 500 (p, κ) = ((kq tb n true p 0).1, (κ.1, va_up κ.2 0 (κ.2 0 ++ [(kq tb n true p 0).2]))) := rdA_ok hl
  have s1 : rdA tb n 1 1000 4000 ((kq tb n true p 0).1, (κ.1, va_up κ.2 0 (κ.2 0 ++ [(kq tb n true p 0).2]))) = ((kq tb n true p 1).1, (κ.1, va_up (va_up κ.2 0 (κ.2 0 ++ [(kq tb n true p 0).2])) 1 (κ.2 1 ++ [(kq tb n true p 1).2]))) := rdA_ok (κ := (κ.1, va_up κ.2 0 (κ.2 0 ++ [(kq tb n true p 0).2]))) (show (κ.2 1).length < 8 by omega)
  have s2 : rdA tb n 2 1 200 ((kq tb n true p 1).1, (κ.1, va_up (va_up κ.2 0 (κ.2 0 ++ [(kq tb n true p 0).2])) 1 (κ.2 1 ++ [(kq tb n true p 1).2]))) = ((kq tb n true p 2).1, (κ.1, va_up (va_up (va_up κ.2 0 (κ.2 0 ++ [(kq tb n true p 0).2])) 1 (κ.2 1 ++ [(kq tb n true p 1).2])) 2 (κ.2 2 ++ [(kq tb n true p 2).2]))) := rdA_ok (κ := (κ.1, va_up (va_up κ.2 0 (κ.2 0 ++ [(kq tb n true p 0).2])) 1 (κ.2 1 ++ [(kq tb n true p 1).2]))) (show (κ.2 2).length < 8 by omega)
  have s3 : rdA tb n 3 0 9999 ((kq tb n true p 2).1, (κ.1, va_up (va_up (va_up κ.2 0 (κ.2 0 ++ [(kq tb n true p 0).2])) 1 (κ.2 1 ++ [(kq tb n true p 1).2])) 2 (κ.2 2 ++ [(kq tb n true p 2).2]))) = ((kq tb n true p 3).1, (κ.1, va_up (va_up (va_up (va_up κ.2 0 (κ.2 0 ++ [(kq tb n true p 0).2])) 1 (κ.2 1 ++ [(kq tb n true p 1).2])) 2 (κ.2 2 ++ [(kq tb n true p 2).2])) 3 (κ.2 3 ++ [(kq tb n true p 3).2]))) := rdA_ok (κ := (κ.1, va_up (va_up (va_up κ.2 0 (κ.2 0 ++ [(kq tb n true p 0).2])) 1 (κ.2 1 ++ [(kq tb n true p 1).2])) 2 (κ.2 2 ++ [(kq tb n true p 2).2]))) (show (κ.2 3).length < 8 by omega)
  have s4 : rdA tb n 4 1 500 ((kq tb n true p 3).1, (κ.1, va_up (va_up (va_up (va_up κ.2 0 (κ.2 0 ++ [(kq tb n true p 0).2])) 1 (κ.2 1 ++ [(kq tb n true p 1).2])) 2 (κ.2 2 ++ [(kq tb n true p 2).2])) 3 (κ.2 3 ++ [(kq tb n true p 3).2]))) = ((kq tb n true p 4).1, (κ.1, va_up (va_up (va_up (va_up (va_up κ.2 0 (κ.2 0 ++ [(kq tb n true p 0).2])) 1 (κ.2 1 ++ [(kq tb n true p 1).2])) 2 (κ.2 2 ++ [(kq tb n true p 2).2])) 3 (κ.2 3 ++ [(kq tb n true p 3).2])) 4 (κ.2 4 ++ [(kq tb n true p 4).2]))) := rdA_ok (κ := (κ.1, va_up (va_up (va_up (va_up κ.2 0 (κ.2 0 ++ [(kq tb n true p 0).2])) 1 (κ.2 1 ++ [(kq tb n true p 1).2])) 2 (κ.2 2 ++ [(kq tb n true p 2).2])) 3 (κ.2 3 ++ [(kq tb n true p 3).2]))) (show (κ.2 4).length < 8 by omega)
  rw [s0, s1, s2, s3, s4]
theorem kdF_eq {tb : Nat → Int32} {n : Nat} {p : Ps} {κ : Cf} (hl : (κ.2 5).length < 4) (he : ∀ r, r < 5 → (κ.2 (5 + r)).length = (κ.2 5).length) : kdS tb n 5 false p κ = ((kq tb n false p 4).1, (κ.1, va_up (va_up (va_up (va_up (va_up (κ.2) 5 (κ.2 5 ++ [(kq tb n false p 0).2])) 6 (κ.2 6 ++ [(kq tb n false p 1).2])) 7 (κ.2 7 ++ [(kq tb n false p 2).2])) 8 (κ.2 8 ++ [(kq tb n false p 3).2])) 9 (κ.2 9 ++ [(kq tb n false p 4).2]))) := by
  have h1 : (κ.2 6).length = (κ.2 5).length := he 1 (by omega)
  have h2 : (κ.2 7).length = (κ.2 5).length := he 2 (by omega)
  have h3 : (κ.2 8).length = (κ.2 5).length := he 3 (by omega)
  have h4 : (κ.2 9).length = (κ.2 5).length := he 4 (by omega)
  unfold kdS
  have hd : (!decide ((κ.2 5).length < capK 5)) = false := by
    have : (κ.2 5).length < capK 5 := hl
    simp [this]
  rw [hd, failS_f]
  show rdA tb n 9 1 500 (rdA tb n 8 0 9999 (rdA tb n 7 1 200 (rdA tb n 6 1000 4000 ((p, adR κ 5 0))))) = _
  have s0 : (p, adR κ 5 0) = ((kq tb n false p 0).1, (κ.1, va_up κ.2 5 (κ.2 5 ++ [(kq tb n false p 0).2]))) := by rw [adR_ok (κ := κ) (r := 5) hl]; rfl
  have s1 : rdA tb n 6 1000 4000 ((kq tb n false p 0).1, (κ.1, va_up κ.2 5 (κ.2 5 ++ [(kq tb n false p 0).2]))) = ((kq tb n false p 1).1, (κ.1, va_up (va_up κ.2 5 (κ.2 5 ++ [(kq tb n false p 0).2])) 6 (κ.2 6 ++ [(kq tb n false p 1).2]))) := rdA_ok (κ := (κ.1, va_up κ.2 5 (κ.2 5 ++ [(kq tb n false p 0).2]))) (show (κ.2 6).length < 4 by omega)
  have s2 : rdA tb n 7 1 200 ((kq tb n false p 1).1, (κ.1, va_up (va_up κ.2 5 (κ.2 5 ++ [(kq tb n false p 0).2])) 6 (κ.2 6 ++ [(kq tb n false p 1).2]))) = ((kq tb n false p 2).1, (κ.1, va_up (va_up (va_up κ.2 5 (κ.2 5 ++ [(kq tb n false p 0).2])) 6 (κ.2 6 ++ [(kq tb n false p 1).2])) 7 (κ.2 7 ++ [(kq tb n false p 2).2]))) := rdA_ok (κ := (κ.1, va_up (va_up κ.2 5 (κ.2 5 ++ [(kq tb n false p 0).2])) 6 (κ.2 6 ++ [(kq tb n false p 1).2]))) (show (κ.2 7).length < 4 by omega)
  have s3 : rdA tb n 8 0 9999 ((kq tb n false p 2).1, (κ.1, va_up (va_up (va_up κ.2 5 (κ.2 5 ++ [(kq tb n false p 0).2])) 6 (κ.2 6 ++ [(kq tb n false p 1).2])) 7 (κ.2 7 ++ [(kq tb n false p 2).2]))) = ((kq tb n false p 3).1, (κ.1, va_up (va_up (va_up (va_up κ.2 5 (κ.2 5 ++ [(kq tb n false p 0).2])) 6 (κ.2 6 ++ [(kq tb n false p 1).2])) 7 (κ.2 7 ++ [(kq tb n false p 2).2])) 8 (κ.2 8 ++ [(kq tb n false p 3).2]))) := rdA_ok (κ := (κ.1, va_up (va_up (va_up κ.2 5 (κ.2 5 ++ [(kq tb n false p 0).2])) 6 (κ.2 6 ++ [(kq tb n false p 1).2])) 7 (κ.2 7 ++ [(kq tb n false p 2).2]))) (show (κ.2 8).length < 4 by omega)
  have s4 : rdA tb n 9 1 500 ((kq tb n false p 3).1, (κ.1, va_up (va_up (va_up (va_up κ.2 5 (κ.2 5 ++ [(kq tb n false p 0).2])) 6 (κ.2 6 ++ [(kq tb n false p 1).2])) 7 (κ.2 7 ++ [(kq tb n false p 2).2])) 8 (κ.2 8 ++ [(kq tb n false p 3).2]))) = ((kq tb n false p 4).1, (κ.1, va_up (va_up (va_up (va_up (va_up κ.2 5 (κ.2 5 ++ [(kq tb n false p 0).2])) 6 (κ.2 6 ++ [(kq tb n false p 1).2])) 7 (κ.2 7 ++ [(kq tb n false p 2).2])) 8 (κ.2 8 ++ [(kq tb n false p 3).2])) 9 (κ.2 9 ++ [(kq tb n false p 4).2]))) := rdA_ok (κ := (κ.1, va_up (va_up (va_up (va_up κ.2 5 (κ.2 5 ++ [(kq tb n false p 0).2])) 6 (κ.2 6 ++ [(kq tb n false p 1).2])) 7 (κ.2 7 ++ [(kq tb n false p 2).2])) 8 (κ.2 8 ++ [(kq tb n false p 3).2]))) (show (κ.2 9).length < 4 by omega)
  rw [s0, s1, s2, s3, s4]
theorem WFK.kdT {tb : Nat → Int32} {n : Nat} {p : Ps} {κ : Cf} (w : WFK κ) (h : (kdS tb n 0 true p κ).1.1 = 0) : (κ.2 0).length < 8 ∧ p.1 = 0 ∧ (kq tb n true p 4).1.1 = 0 ∧ WFK (kdS tb n 0 true p κ).2 := by
  have hl : (κ.2 0).length < 8 ∧ p.1 = 0 := by
    have h4 := h
    unfold kdS at h4
    have r4 := (rdN_ok h4).1
    have r3 := (rdN_ok r4).1
    have r2 := (rdN_ok r3).1
    have r1 := (rdN_ok r2).1
    have r0 : (rdN tb n (failS p (!decide ((κ.2 0).length < capK 0)) 4) 1 500).1.1 = 0 := r1
    have rf := (rdN_ok r0).1
    obtain ⟨z1, z2⟩ := failS_ok (by omega) rf
    refine ⟨?_, z2⟩
    by_cases q : (κ.2 0).length < capK 0
    · exact q
    · simp [q] at z1
  obtain ⟨⟨w1, w2, w3, w4, w5, w6⟩, w7, w8, w9, w10⟩ := w
  have he : ∀ r, r < 5 → (κ.2 (0 + r)).length = (κ.2 0).length := fun r hr => by rw [Nat.zero_add]; exact w2 r hr
  rw [kdT_eq hl.1 he] at h ⊢
  obtain ⟨-, -, -, -, -, n0, n1, n2, n3, n4⟩ := kq_ok h
  have h1 : (κ.2 1).length = (κ.2 0).length := he 1 (by omega)
  have h2 : (κ.2 2).length = (κ.2 0).length := he 2 (by omega)
  have h3 : (κ.2 3).length = (κ.2 0).length := he 3 (by omega)
  have h4 : (κ.2 4).length = (κ.2 0).length := he 4 (by omega)
  refine ⟨hl.1, hl.2, h, ⟨?_, fun r hr => ?_, w3, all5 (w4 0 (by omega)) (w4 1 (by omega)) (w4 2 (by omega)) (w4 3 (by omega)) (w4 4 (by omega)), w5, w6⟩, fun i hi => ?_, w8, fun i hi => ?_, w10⟩
  · show (κ.2 0 ++ _).length ≤ 8
    rw [List.length_append, List.length_singleton]
    omega
  · rcases (show r = 0 ∨ r = 1 ∨ r = 2 ∨ r = 3 ∨ r = 4 by omega) with rfl | rfl | rfl | rfl | rfl
    · rfl
    · show (κ.2 1 ++ [_]).length = (κ.2 0 ++ [_]).length
      rw [List.length_append, List.length_append, h1]; rfl
    · show (κ.2 2 ++ [_]).length = (κ.2 0 ++ [_]).length
      rw [List.length_append, List.length_append, h2]; rfl
    · show (κ.2 3 ++ [_]).length = (κ.2 0 ++ [_]).length
      rw [List.length_append, List.length_append, h3]; rfl
    · show (κ.2 4 ++ [_]).length = (κ.2 0 ++ [_]).length
      rw [List.length_append, List.length_append, h4]; rfl
  · have hi' : i < (κ.2 0 ++ [(kq tb n true p 0).2]).length := hi
    rw [List.length_append, List.length_singleton] at hi'
    show Ng 1 500 ((κ.2 0 ++ [_]).getD i 0) ∧ Ng 1000 4000 ((κ.2 1 ++ [_]).getD i 0) ∧ Ng 1 200 ((κ.2 2 ++ [_]).getD i 0) ∧ Ng 0 9999 ((κ.2 3 ++ [_]).getD i 0) ∧ Ng 1 500 ((κ.2 4 ++ [_]).getD i 0)
    by_cases q : i < (κ.2 0).length
    · rw [gA q, gA (by omega), gA (by omega), gA (by omega), gA (by omega)]
      exact w7 i q
    · rw [gB (by omega), gB (by omega), gB (by omega), gB (by omega), gB (by omega)]
      exact ⟨n0 rfl, n1, n2, n3, n4⟩
  · obtain ⟨⟨t, t1, t2⟩, z⟩ := w9 i hi
    refine ⟨⟨t, ?_, t2⟩, z⟩
    show t < (κ.2 0 ++ [_]).length
    rw [List.length_append]
    omega
theorem WFK.kdF {tb : Nat → Int32} {n : Nat} {p : Ps} {κ : Cf} (w : WFK κ) (h : (kdS tb n 5 false p κ).1.1 = 0) : (κ.2 5).length < 4 ∧ p.1 = 0 ∧ (kq tb n false p 4).1.1 = 0 ∧ WFK (kdS tb n 5 false p κ).2 := by
  have hl : (κ.2 5).length < 4 ∧ p.1 = 0 := by
    have h4 := h
    unfold kdS at h4
    have r4 := (rdN_ok h4).1
    have r3 := (rdN_ok r4).1
    have r2 := (rdN_ok r3).1
    have r1 := (rdN_ok r2).1
    have rf : (failS p (!decide ((κ.2 5).length < capK 5)) 4).1 = 0 := r1
    obtain ⟨z1, z2⟩ := failS_ok (by omega) rf
    refine ⟨?_, z2⟩
    by_cases q : (κ.2 5).length < capK 5
    · exact q
    · simp [q] at z1
  obtain ⟨⟨w1, w2, w3, w4, w5, w6⟩, w7, w8, w9, w10⟩ := w
  have he := w4
  rw [kdF_eq hl.1 he] at h ⊢
  obtain ⟨-, -, -, -, -, n0, n1, n2, n3, n4⟩ := kq_ok h
  have h1 : (κ.2 6).length = (κ.2 5).length := he 1 (by omega)
  have h2 : (κ.2 7).length = (κ.2 5).length := he 2 (by omega)
  have h3 : (κ.2 8).length = (κ.2 5).length := he 3 (by omega)
  have h4 : (κ.2 9).length = (κ.2 5).length := he 4 (by omega)
  refine ⟨hl.1, hl.2, h, ⟨w1, all5 (w2 0 (by omega)) (w2 1 (by omega)) (w2 2 (by omega)) (w2 3 (by omega)) (w2 4 (by omega)), ?_, fun r hr => ?_, w5, w6⟩, w7, fun i hi => ?_, w9, w10⟩
  · show (κ.2 5 ++ _).length ≤ 4
    rw [List.length_append, List.length_singleton]
    omega
  · rcases (show r = 0 ∨ r = 1 ∨ r = 2 ∨ r = 3 ∨ r = 4 by omega) with rfl | rfl | rfl | rfl | rfl
    · rfl
    · show (κ.2 6 ++ [_]).length = (κ.2 5 ++ [_]).length
      rw [List.length_append, List.length_append, h1]; rfl
    · show (κ.2 7 ++ [_]).length = (κ.2 5 ++ [_]).length
      rw [List.length_append, List.length_append, h2]; rfl
    · show (κ.2 8 ++ [_]).length = (κ.2 5 ++ [_]).length
      rw [List.length_append, List.length_append, h3]; rfl
    · show (κ.2 9 ++ [_]).length = (κ.2 5 ++ [_]).length
      rw [List.length_append, List.length_append, h4]; rfl
  · have hi' : i < (κ.2 5 ++ [(kq tb n false p 0).2]).length := hi
    rw [List.length_append, List.length_singleton] at hi'
    show Ng 1000 4000 ((κ.2 6 ++ [_]).getD i 0) ∧ Ng 1 200 ((κ.2 7 ++ [_]).getD i 0) ∧ Ng 0 9999 ((κ.2 8 ++ [_]).getD i 0) ∧ Ng 1 500 ((κ.2 9 ++ [_]).getD i 0)
    by_cases q : i < (κ.2 5).length
    · rw [gA (by omega), gA (by omega), gA (by omega), gA (by omega)]
      exact w8 i q
    · rw [gB (by omega), gB (by omega), gB (by omega), gB (by omega)]
      exact ⟨n1, n2, n3, n4⟩
theorem bn_eq {tb : Nat → Int32} {n : Nat} {p : Ps} {κ : Cf} (hl : (κ.2 10).length < 8) (he : (κ.2 11).length = (κ.2 10).length) : bnS tb n p κ = ((rdN tb n (rdN tb n p 0 (nI (κ.2 0).length - 1)).1 1 100).1, (κ.1, va_up (va_up κ.2 10 (κ.2 10 ++ [(rdN tb n p 0 (nI (κ.2 0).length - 1)).2])) 11 (κ.2 11 ++ [(rdN tb n (rdN tb n p 0 (nI (κ.2 0).length - 1)).1 1 100).2]))) := by
  unfold bnS
  have hd : (!decide ((κ.2 10).length < capK 10)) = false := by
    have : (κ.2 10).length < capK 10 := hl
    simp [this]
  rw [hd, failS_f]
  unfold rdA
  rw [adR_ok (κ := κ) (r := 10) hl]
  rw [adR_ok (κ := (κ.1, va_up κ.2 10 (κ.2 10 ++ [(rdN tb n p 0 (nI (κ.2 0).length - 1)).2]))) (r := 11) (show (κ.2 11).length < 8 by omega)]
  rfl
theorem WFK.bn {tb : Nat → Int32} {n : Nat} {p : Ps} {κ : Cf} (w : WFK κ) (h : (bnS tb n p κ).1.1 = 0) : (κ.2 10).length < 8 ∧ p.1 = 0 ∧ (rdN tb n p 0 (nI (κ.2 0).length - 1)).1.1 = 0 ∧ WFK (bnS tb n p κ).2 := by
  have hl : (κ.2 10).length < 8 ∧ p.1 = 0 := by
    have h4 := h
    unfold bnS at h4
    have r4 := (rdN_ok h4).1
    have rf := (rdN_ok r4).1
    obtain ⟨z1, z2⟩ := failS_ok (by omega) rf
    refine ⟨?_, z2⟩
    by_cases q : (κ.2 10).length < capK 10
    · exact q
    · simp [q] at z1
  obtain ⟨⟨w1, w2, w3, w4, w5, w6⟩, w7, w8, w9, w10⟩ := w
  rw [bn_eq hl.1 w6] at h ⊢
  obtain ⟨a3, -, a4, a5, a6, -⟩ := rdN_ok h
  obtain ⟨b2, -, b4, b5, b6, -⟩ := rdN_ok a3
  refine ⟨hl.1, hl.2, a3, ⟨w1, all5 (w2 0 (by omega)) (w2 1 (by omega)) (w2 2 (by omega)) (w2 3 (by omega)) (w2 4 (by omega)), w3, all5 (w4 0 (by omega)) (w4 1 (by omega)) (w4 2 (by omega)) (w4 3 (by omega)) (w4 4 (by omega)), ?_, ?_⟩, w7, w8, fun i hi => ?_, w10⟩
  · show (κ.2 10 ++ [_]).length ≤ 8
    rw [List.length_append, List.length_singleton]
    omega
  · show (κ.2 11 ++ [_]).length = (κ.2 10 ++ [_]).length
    rw [List.length_append, List.length_append, w6]; rfl
  · have hi' : i < (κ.2 10 ++ [(rdN tb n p 0 (nI (κ.2 0).length - 1)).2]).length := hi
    rw [List.length_append, List.length_singleton] at hi'
    show (∃ t, t < (κ.2 0).length ∧ (κ.2 10 ++ [(rdN tb n p 0 (nI (κ.2 0).length - 1)).2]).getD i 0 = nI t) ∧ Ng 1 100 ((κ.2 11 ++ [(rdN tb n (rdN tb n p 0 (nI (κ.2 0).length - 1)).1 1 100).2]).getD i 0)
    by_cases q : i < (κ.2 10).length
    · rw [gA q, gA (by omega)]
      exact w9 i q
    · rw [gB (by omega), gB (by omega), a6, b6]
      refine ⟨?_, ng_of (by decide) (by decide) a4 a5⟩
      by_cases z : (κ.2 0).length = 0
      · exfalso
        rw [z] at b5
        have b5' : rdV tb n p.2.2 ≤ -1 := b5
        have := Int32.le_iff_toInt_le.mp b5'
        rw [show (-1 : Int32).toInt = -1 from rfl] at this
        apply b4
        apply Int32.lt_iff_toInt_lt.mpr
        rw [show (0 : Int32).toInt = 0 from rfl]
        omega
      · rw [show nI (κ.2 0).length - 1 = nI ((κ.2 0).length - 1) from pk_sub (b := 1) (by omega)] at b5
        obtain ⟨t, -, t2, t3⟩ := ng_of (a := 0) (by decide) (by omega) b4 b5
        exact ⟨t, by omega, t3⟩
theorem WFK.on {tb : Nat → Int32} {n i : Nat} {lo hi : Int32} {p : Ps} {κ : Cf} {fl : Nat → Nat} {a b : Nat} (hi3 : i < 3) (ha : a < 2 ^ 31) (hb : b < 2 ^ 31) (hlo : lo = nI a) (hhi : hi = nI b) (hab : i = 0 ∧ a = 1000 ∧ b = 4000 ∨ i = 1 ∧ a = 0 ∧ b = 20 ∨ i = 2 ∧ a = 0 ∧ b = 2000) (w : WFK κ) (h : (onS tb n i lo hi p κ fl).1.1 = 0) : ¬ fl i = 1 ∧ p.1 = 0 ∧ (rdN tb n p lo hi).1.1 = 0 ∧ onS tb n i lo hi p κ fl = ((rdN tb n p lo hi).1, (upd κ.1 i (rdN tb n p lo hi).2, κ.2), va_up fl i 1) ∧ WFK (onS tb n i lo hi p κ fl).2.1 := by
  have h4 : (rdN tb n (failS p (decide (fl i = 1)) 3) lo hi).1.1 = 0 := h
  have rf := (rdN_ok h4).1
  obtain ⟨z1, z2⟩ := failS_ok (by omega) rf
  have hfl : ¬ fl i = 1 := by simpa using z1
  have e : onS tb n i lo hi p κ fl = ((rdN tb n p lo hi).1, (upd κ.1 i (rdN tb n p lo hi).2, κ.2), va_up fl i 1) := by
    unfold onS
    rw [z1, failS_f]
  rw [z1, failS_f] at h4
  refine ⟨hfl, z2, h4, e, ?_⟩
  rw [e]
  obtain ⟨-, -, a4, a5, a6, -⟩ := rdN_ok h4
  obtain ⟨w1, w7, w8, w9, w10, w11, w12⟩ := w
  have hv : Ng a b (rdN tb n p lo hi).2 := by
    rw [a6]
    exact ng_of ha hb (by rw [← hlo]; exact a4) (by rw [← hhi]; exact a5)
  rcases hab with ⟨rfl, rfl, rfl⟩ | ⟨rfl, rfl, rfl⟩ | ⟨rfl, rfl, rfl⟩
  · exact ⟨w1, w7, w8, w9, hv, w11, w12⟩
  · exact ⟨w1, w7, w8, w9, w10, hv, w12⟩
  · exact ⟨w1, w7, w8, w9, w10, w11, hv⟩
theorem WFK.stm {tb : Nat → Int32} {n : Nat} {k : Int32} {p : Ps} {κ : Cf} {fl : Nat → Nat} (w : WFK κ) (h : (stB tb n k p κ fl).1.1 = 0) : WFK (stB tb n k p κ fl).2.1 := by
  unfold stB at h ⊢
  by_cases c0 : wdB tb k p.2.1 p.2.2 wd0 = true
  · rw [if_pos c0] at h ⊢
    exact (w.kdT h).2.2.2
  · rw [if_neg c0] at h ⊢
    by_cases c1 : wdB tb k p.2.1 p.2.2 wd1 = true
    · rw [if_pos c1] at h ⊢
      exact (w.kdF h).2.2.2
    · rw [if_neg c1] at h ⊢
      by_cases c2 : wdB tb k p.2.1 p.2.2 wd2 = true
      · rw [if_pos c2] at h ⊢
        exact (w.bn h).2.2.2
      · rw [if_neg c2] at h ⊢
        by_cases c3 : wdB tb k p.2.1 p.2.2 wd3 = true
        · rw [if_pos c3] at h ⊢
          exact (w.on (a := 1000) (b := 4000) (by omega) (by decide) (by decide) rfl rfl (by omega) h).2.2.2.2
        · rw [if_neg c3] at h ⊢
          by_cases c4 : wdB tb k p.2.1 p.2.2 wd4 = true
          · rw [if_pos c4] at h ⊢
            exact (w.on (a := 0) (b := 20) (by omega) (by decide) (by decide) rfl rfl (by omega) h).2.2.2.2
          · rw [if_neg c4] at h ⊢
            by_cases c5 : wdB tb k p.2.1 p.2.2 wd5 = true
            · rw [if_pos c5] at h ⊢
              exact (w.on (a := 0) (b := 2000) (by omega) (by decide) (by decide) rfl rfl (by omega) h).2.2.2.2
            · rw [if_neg c5] at h ⊢
              exact w
