/-! PURE: the draft grows; a statement of the reference -/
theorem RelD.ty {A : Nat → Nat → Int32} {K : Nat → Int32} {κ : Cf} {v : Nat → Int32} (hd : RelD A κ) (w : WFK κ) (hl : (κ.2 0).length < 8) (hK : ∀ q, ¬ (60 + 5 * (κ.2 0).length ≤ q ∧ q < 60 + 5 * (κ.2 0).length + 5) → K q = A 12 q) (h0 : K (60 + 5 * (κ.2 0).length) = v 0) (h1 : K (60 + 5 * (κ.2 0).length + 1) = v 1) (h2 : K (60 + 5 * (κ.2 0).length + 2) = v 2) (h3 : K (60 + 5 * (κ.2 0).length + 3) = v 3) (h4 : K (60 + 5 * (κ.2 0).length + 4) = v 4) : RelD (va_up (va_up A 12 K) 11 (upd (A 11) 0 (nI ((κ.2 0).length + 1)))) (κ.1, va_up (va_up (va_up (va_up (va_up κ.2 0 (κ.2 0 ++ [v 0])) 1 (κ.2 1 ++ [v 1])) 2 (κ.2 2 ++ [v 2])) 3 (κ.2 3 ++ [v 3])) 4 (κ.2 4 ++ [v 4])) := by
  obtain ⟨⟨d0, d1, d2, d3, d4, d5⟩, dk, df, db⟩ := hd
  obtain ⟨w1, w2, w3, w4, w5, w6⟩ := w.1
  have l1 := w2 1 (by omega)
  have l2 := w2 2 (by omega)
  have l3 := w2 3 (by omega)
  have l4 := w2 4 (by omega)
  refine ⟨⟨?_, d1, d2, d3, d4, d5⟩, fun i hi r hr => ?_, fun i hi r hr => ?_, db⟩
  · show nI ((κ.2 0).length + 1) = nI (κ.2 0 ++ [v 0]).length
    rw [List.length_append]; rfl
  · have hi' : i < (κ.2 0 ++ [v 0]).length := hi
    rw [List.length_append, List.length_singleton] at hi'
    show K (60 + (5 * i + r)) = _
    by_cases q : i < (κ.2 0).length
    · have e : A 12 (60 + (5 * i + r)) = (κ.2 r).getD i 0 := dk i q r hr
      rw [hK _ (by omega), e]
      rcases (show r = 0 ∨ r = 1 ∨ r = 2 ∨ r = 3 ∨ r = 4 by omega) with rfl | rfl | rfl | rfl | rfl
      · show (κ.2 0).getD i 0 = (κ.2 0 ++ [v 0]).getD i 0
        rw [gA (by omega)]
      · show (κ.2 1).getD i 0 = (κ.2 1 ++ [v 1]).getD i 0
        rw [gA (by omega)]
      · show (κ.2 2).getD i 0 = (κ.2 2 ++ [v 2]).getD i 0
        rw [gA (by omega)]
      · show (κ.2 3).getD i 0 = (κ.2 3 ++ [v 3]).getD i 0
        rw [gA (by omega)]
      · show (κ.2 4).getD i 0 = (κ.2 4 ++ [v 4]).getD i 0
        rw [gA (by omega)]
    · have hil : i = (κ.2 0).length := by omega
      rcases (show r = 0 ∨ r = 1 ∨ r = 2 ∨ r = 3 ∨ r = 4 by omega) with rfl | rfl | rfl | rfl | rfl
      · show K (60 + (5 * i + 0)) = (κ.2 0 ++ [v 0]).getD i 0
        rw [gB (by omega), show 60 + (5 * i + 0) = 60 + 5 * (κ.2 0).length by omega, h0]
      · show K (60 + (5 * i + 1)) = (κ.2 1 ++ [v 1]).getD i 0
        rw [gB (by omega), show 60 + (5 * i + 1) = 60 + 5 * (κ.2 0).length + 1 by omega, h1]
      · show K (60 + (5 * i + 2)) = (κ.2 2 ++ [v 2]).getD i 0
        rw [gB (by omega), show 60 + (5 * i + 2) = 60 + 5 * (κ.2 0).length + 2 by omega, h2]
      · show K (60 + (5 * i + 3)) = (κ.2 3 ++ [v 3]).getD i 0
        rw [gB (by omega), show 60 + (5 * i + 3) = 60 + 5 * (κ.2 0).length + 3 by omega, h3]
      · show K (60 + (5 * i + 4)) = (κ.2 4 ++ [v 4]).getD i 0
        rw [gB (by omega), show 60 + (5 * i + 4) = 60 + 5 * (κ.2 0).length + 4 by omega, h4]
  · show K (60 + (5 * (8 + i) + r)) = _
    rw [hK _ (by omega)]
    rcases (show r = 0 ∨ r = 1 ∨ r = 2 ∨ r = 3 ∨ r = 4 by omega) with rfl | rfl | rfl | rfl | rfl
    · exact df i hi 0 (by omega)
    · exact df i hi 1 (by omega)
    · exact df i hi 2 (by omega)
    · exact df i hi 3 (by omega)
    · exact df i hi 4 (by omega)
theorem RelD.fk {A : Nat → Nat → Int32} {K : Nat → Int32} {κ : Cf} {v : Nat → Int32} (hd : RelD A κ) (w : WFK κ) (hl : (κ.2 5).length < 4) (hK : ∀ q, ¬ (60 + 5 * (8 + (κ.2 5).length) ≤ q ∧ q < 60 + 5 * (8 + (κ.2 5).length) + 5) → K q = A 12 q) (h0 : K (60 + 5 * (8 + (κ.2 5).length)) = v 0) (h1 : K (60 + 5 * (8 + (κ.2 5).length) + 1) = v 1) (h2 : K (60 + 5 * (8 + (κ.2 5).length) + 2) = v 2) (h3 : K (60 + 5 * (8 + (κ.2 5).length) + 3) = v 3) (h4 : K (60 + 5 * (8 + (κ.2 5).length) + 4) = v 4) : RelD (va_up (va_up A 12 K) 11 (upd (A 11) 1 (nI ((κ.2 5).length + 1)))) (κ.1, va_up (va_up (va_up (va_up (va_up κ.2 5 (κ.2 5 ++ [v 0])) 6 (κ.2 6 ++ [v 1])) 7 (κ.2 7 ++ [v 2])) 8 (κ.2 8 ++ [v 3])) 9 (κ.2 9 ++ [v 4])) := by
  obtain ⟨⟨d0, d1, d2, d3, d4, d5⟩, dk, df, db⟩ := hd
  obtain ⟨w1, w2, w3, w4, w5, w6⟩ := w.1
  have l1 : (κ.2 6).length = (κ.2 5).length := w4 1 (by omega)
  have l2 : (κ.2 7).length = (κ.2 5).length := w4 2 (by omega)
  have l3 : (κ.2 8).length = (κ.2 5).length := w4 3 (by omega)
  have l4 : (κ.2 9).length = (κ.2 5).length := w4 4 (by omega)
  refine ⟨⟨d0, ?_, d2, d3, d4, d5⟩, fun i hi r hr => ?_, fun i hi r hr => ?_, db⟩
  · show nI ((κ.2 5).length + 1) = nI (κ.2 5 ++ [v 0]).length
    rw [List.length_append]; rfl
  · have hi' : i < (κ.2 0).length := hi
    show K (60 + (5 * i + r)) = _
    rw [hK _ (by omega)]
    rcases (show r = 0 ∨ r = 1 ∨ r = 2 ∨ r = 3 ∨ r = 4 by omega) with rfl | rfl | rfl | rfl | rfl
    · exact dk i hi' 0 (by omega)
    · exact dk i hi' 1 (by omega)
    · exact dk i hi' 2 (by omega)
    · exact dk i hi' 3 (by omega)
    · exact dk i hi' 4 (by omega)
  · have hi' : i < (κ.2 5 ++ [v 0]).length := hi
    rw [List.length_append, List.length_singleton] at hi'
    show K (60 + (5 * (8 + i) + r)) = _
    by_cases q : i < (κ.2 5).length
    · have e : A 12 (60 + (5 * (8 + i) + r)) = (κ.2 (5 + r)).getD i 0 := df i q r hr
      rw [hK _ (by omega), e]
      rcases (show r = 0 ∨ r = 1 ∨ r = 2 ∨ r = 3 ∨ r = 4 by omega) with rfl | rfl | rfl | rfl | rfl
      · show (κ.2 5).getD i 0 = (κ.2 5 ++ [v 0]).getD i 0
        rw [gA (by omega)]
      · show (κ.2 6).getD i 0 = (κ.2 6 ++ [v 1]).getD i 0
        rw [gA (by omega)]
      · show (κ.2 7).getD i 0 = (κ.2 7 ++ [v 2]).getD i 0
        rw [gA (by omega)]
      · show (κ.2 8).getD i 0 = (κ.2 8 ++ [v 3]).getD i 0
        rw [gA (by omega)]
      · show (κ.2 9).getD i 0 = (κ.2 9 ++ [v 4]).getD i 0
        rw [gA (by omega)]
    · have hil : i = (κ.2 5).length := by omega
      rcases (show r = 0 ∨ r = 1 ∨ r = 2 ∨ r = 3 ∨ r = 4 by omega) with rfl | rfl | rfl | rfl | rfl
      · show K (60 + (5 * (8 + i) + 0)) = (κ.2 5 ++ [v 0]).getD i 0
        rw [gB (by omega), show 60 + (5 * (8 + i) + 0) = 60 + 5 * (8 + (κ.2 5).length) by omega, h0]
      · show K (60 + (5 * (8 + i) + 1)) = (κ.2 6 ++ [v 1]).getD i 0
        rw [gB (by omega), show 60 + (5 * (8 + i) + 1) = 60 + 5 * (8 + (κ.2 5).length) + 1 by omega, h1]
      · show K (60 + (5 * (8 + i) + 2)) = (κ.2 7 ++ [v 2]).getD i 0
        rw [gB (by omega), show 60 + (5 * (8 + i) + 2) = 60 + 5 * (8 + (κ.2 5).length) + 2 by omega, h2]
      · show K (60 + (5 * (8 + i) + 3)) = (κ.2 8 ++ [v 3]).getD i 0
        rw [gB (by omega), show 60 + (5 * (8 + i) + 3) = 60 + 5 * (8 + (κ.2 5).length) + 3 by omega, h3]
      · show K (60 + (5 * (8 + i) + 4)) = (κ.2 9 ++ [v 4]).getD i 0
        rw [gB (by omega), show 60 + (5 * (8 + i) + 4) = 60 + 5 * (8 + (κ.2 5).length) + 4 by omega, h4]
theorem RelD.bn {A : Nat → Nat → Int32} {κ : Cf} {x y : Int32} (hd : RelD A κ) (w : WFK κ) : RelD (va_up (va_up (va_up A 13 (upd (A 13) (8 + (κ.2 10).length) x)) 14 (upd (A 14) (8 + (κ.2 10).length) y)) 11 (upd (A 11) 2 (nI ((κ.2 10).length + 1)))) (κ.1, va_up (va_up κ.2 10 (κ.2 10 ++ [x])) 11 (κ.2 11 ++ [y])) := by
  obtain ⟨⟨d0, d1, d2, d3, d4, d5⟩, dk, df, db⟩ := hd
  obtain ⟨w1, w2, w3, w4, w5, w6⟩ := w.1
  refine ⟨⟨d0, d1, ?_, d3, d4, d5⟩, fun i hi r hr => ?_, fun i hi r hr => ?_, fun i hi => ?_⟩
  · show nI ((κ.2 10).length + 1) = nI (κ.2 10 ++ [x]).length
    rw [List.length_append]; rfl
  · rcases (show r = 0 ∨ r = 1 ∨ r = 2 ∨ r = 3 ∨ r = 4 by omega) with rfl | rfl | rfl | rfl | rfl
    · exact dk i hi 0 (by omega)
    · exact dk i hi 1 (by omega)
    · exact dk i hi 2 (by omega)
    · exact dk i hi 3 (by omega)
    · exact dk i hi 4 (by omega)
  · rcases (show r = 0 ∨ r = 1 ∨ r = 2 ∨ r = 3 ∨ r = 4 by omega) with rfl | rfl | rfl | rfl | rfl
    · exact df i hi 0 (by omega)
    · exact df i hi 1 (by omega)
    · exact df i hi 2 (by omega)
    · exact df i hi 3 (by omega)
    · exact df i hi 4 (by omega)
  · have hi' : i < (κ.2 10 ++ [x]).length := hi
    rw [List.length_append, List.length_singleton] at hi'
    show upd (A 13) (8 + (κ.2 10).length) x (8 + i) = (κ.2 10 ++ [x]).getD i 0 ∧ upd (A 14) (8 + (κ.2 10).length) y (8 + i) = (κ.2 11 ++ [y]).getD i 0
    by_cases q : i < (κ.2 10).length
    · rw [pk_un (by omega), pk_un (by omega), gA (by omega), gA (by omega)]
      exact db i q
    · have hil : i = (κ.2 10).length := by omega
      rw [gB (by omega), gB (by omega), hil, pk_us, pk_us]
      exact ⟨rfl, rfl⟩
theorem RelD.on {A : Nat → Nat → Int32} {κ : Cf} {i : Nat} (hi : i < 3) {v : Int32} (hd : RelD A κ) : RelD (va_up A 11 (upd (A 11) (3 + i) v)) (upd κ.1 i v, κ.2) := by
  obtain ⟨⟨d0, d1, d2, d3, d4, d5⟩, dk, df, db⟩ := hd
  rcases (show i = 0 ∨ i = 1 ∨ i = 2 by omega) with rfl | rfl | rfl
  · exact ⟨⟨d0, d1, d2, rfl, d4, d5⟩, dk, df, db⟩
  · exact ⟨⟨d0, d1, d2, d3, rfl, d5⟩, dk, df, db⟩
  · exact ⟨⟨d0, d1, d2, d3, d4, rfl⟩, dk, df, db⟩
section RX
variable {N : Nat} {M : Mem} {F : Nat → Int32} {A : Nat → Nat → Int32} {tb : Nat → Int32} {n : Nat} {κ : Cf} {fl : Nat → Nat}
theorem rf_on (hN : 2 ^ 15 ≤ N) (h : MAt M F A) (ht : TB (A 1) tb n) (h8 : F 8 = 0) {e : Nat} (he : e ≤ n) (hk : RTk tb n F e) (hk0 : ¬ tkK tb n e = 0) (hfl : FGr F fl) {i : Nat} (hi : i < 3) (lo hi' : Int32) {x y : Int32} (hx : x = nI i) (hy : y = nI (3 + i)) (hd : RelD A κ) : RW M ((mm_gR M 389 10 11).bind fun b => (mm_ck M 389 10).bind fun _ => mm_b2 (fn_X10_once N M 389 x lo hi') fun v M' => (mm_sI M' b 0 y v).bind fun M'' => some ((), M'')) (fun _ F' A' => Dft A A' ∧ Kr F F' ∧ RTP tb n F' (onS tb n i lo hi' (0, tkS tb n e, tkE tb n e) κ fl).1 ∧ ((onS tb n i lo hi' (0, tkS tb n e, tkE tb n e) κ fl).1.1 = 0 → RelD A' (onS tb n i lo hi' (0, tkS tb n e, tkE tb n e) κ fl).2.1 ∧ FGr F' (onS tb n i lo hi' (0, tkS tb n e, tkE tb n e) κ fl).2.2)) := by
  subst hx
  subst hy
  rw [h.g11, obs, h.ck, obs]
  refine RW.call (rf_once hN h ht h8 he hk hk0 hfl hi lo hi') ?_
  rintro r M1 F1 A1 h1 ⟨rfl, t1, t2, t3⟩
  refine RW.w11 (j := 3 + i) h1 (by omega) fun M2 h2 => ?_
  refine RW.ret h2 ⟨Dft.a11, t1, t2, fun z => ?_⟩
  obtain ⟨z1, z2⟩ := t3 z
  refine ⟨?_, z1⟩
  rw [z2]
  exact RelD.on hi hd
theorem rf_s211 (h : MAt M F A) {b : Nat} (hb : A 11 2 = nI b) : RW M (fn_X10_statement_211 N M 389) (fun _ F' A' => F' = F ∧ A' = va_up A 11 (upd (A 11) 2 (nI (b + 1)))) := by
  have a0 : mm_aI M 392 0 2 = some (nI b) := by rw [← hb]; exact h.r11 (j := 2) (by decide)
  unfold fn_X10_statement_211
  rw [h.g11, obs, a0, obs, nI_1]
  refine RW.w11 (j := 2) h (by decide) fun M1 h1 => ?_
  exact RW.ret h1 ⟨rfl, rfl⟩
theorem rf_stT (hN : 2 ^ 15 ≤ N) (h : MAt M F A) (ht : TB (A 1) tb n) (h8 : F 8 = 0) {e : Nat} (he : e ≤ n) (hk : RTk tb n F e) (hk0 : ¬ tkK tb n e = 0) (hfl : FGr F fl) (hd : RelD A κ) (w : WFK κ) : RW M ((mm_gR M 389 10 11).bind fun b31 => (mm_aI M b31 0 0).bind fun v32 => if 8 ≤ v32 then fn_X10_statement_26 N M 389 0 389 else fn_X10_statement_26 N M 389 1 389) (fun _ F' A' => Dft A A' ∧ Kr F F' ∧ RTP tb n F' (kdS tb n 0 true (0, tkS tb n e, tkE tb n e) κ).1 ∧ ((kdS tb n 0 true (0, tkS tb n e, tkE tb n e) κ).1.1 = 0 → RelD A' (kdS tb n 0 true (0, tkS tb n e, tkE tb n e) κ).2 ∧ FGr F' fl)) := by
  have d0 := hd.1.1
  have a0 : mm_aI M 392 0 0 = some (nI (κ.2 0).length) := by rw [← d0]; exact h.r11 (j := 0) (by decide)
  rw [h.g11, obs, a0, obs]
  by_cases hl : (κ.2 0).length < 8
  · have he' : ∀ r, r < 5 → (κ.2 (0 + r)).length = (κ.2 0).length := fun r hr => by rw [Nat.zero_add]; exact w.1.2.1 r hr
    rw [if_neg (show ¬ (8 : Int32) ≤ nI (κ.2 0).length from nI_ge hl (by decide)), kdT_eq hl he']
    unfold fn_X10_statement_26
    rw [h.ck, obs, rf_must_ok h h8 (by decide), b2s, if_neg (by decide), h.g11, obs, a0, obs, h.ck, obs]
    refine RW.call (rf_kind hN h ht h8 he hk hk0 (ix := (κ.2 0).length) (by omega) true rfl) ?_
    rintro r M1 F1 A1 h1 ⟨z1, z2, K, rfl, z3, z4⟩
    generalize ((0, tkS tb n e, tkE tb n e) : Ps) = p at z2 z4 ⊢
    have a1 : mm_aI M1 392 0 0 = some (nI (κ.2 0).length) := by rw [← d0]; exact h1.r11 (j := 0) (by decide)
    rw [h1.g11, obs, a1, obs, nI_1]
    refine RW.w11 (j := 0) h1 (by decide) fun M2 h2 => ?_
    refine RW.ret h2 ⟨(Dft.a12 (fun q hq => z3 q (by omega))).tr Dft.a11, z1.kr, z2, fun z => ⟨?_, z1.2.2.2.1.trans hfl.1, hfl.2⟩⟩
    obtain ⟨y0, y1, y2, y3, y4⟩ := z4 z
    exact RelD.ty (v := fun r => (kq tb n true p r).2) hd w hl z3 y0 y1 y2 y3 y4
  · have h8l : (κ.2 0).length = 8 := by have := w.1.1; omega
    rw [if_pos (show (8 : Int32) ≤ nI (κ.2 0).length by rw [h8l]; decide), kdT_full (p := (0, tkS tb n e, tkE tb n e)) rfl hl]
    unfold fn_X10_statement_26
    rw [h.ck, obs]
    refine RW.call (rf_must_err h h8 (k := 4) (by decide)) ?_
    rintro r M1 F1 A1 h1 ⟨rfl, rfl, rfl⟩
    have n0 : ¬ ((8 * tkS tb n e + 4, tkS tb n e, tkE tb n e) : Ps).1 = 0 := by show ¬ 8 * tkS tb n e + 4 = 0; omega
    rw [if_pos rfl]
    refine RW.ret h1 ⟨Dft.rf, ⟨rfl, rfl, rfl, rfl⟩, RTP.mkE n0 ?_, fun z => absurd z n0⟩
    exact rte_mk (F := F) (s := tkS tb n e) (k := 4) hk.2.1 rfl (by omega) (by omega)
theorem rf_stF (hN : 2 ^ 15 ≤ N) (h : MAt M F A) (ht : TB (A 1) tb n) (h8 : F 8 = 0) {e : Nat} (he : e ≤ n) (hk : RTk tb n F e) (hk0 : ¬ tkK tb n e = 0) (hfl : FGr F fl) (hd : RelD A κ) (w : WFK κ) : RW M ((mm_gR M 389 10 11).bind fun b29 => (mm_aI M b29 0 1).bind fun v30 => if 4 ≤ v30 then fn_X10_statement_83 N M 389 0 389 else fn_X10_statement_83 N M 389 1 389) (fun _ F' A' => Dft A A' ∧ Kr F F' ∧ RTP tb n F' (kdS tb n 5 false (0, tkS tb n e, tkE tb n e) κ).1 ∧ ((kdS tb n 5 false (0, tkS tb n e, tkE tb n e) κ).1.1 = 0 → RelD A' (kdS tb n 5 false (0, tkS tb n e, tkE tb n e) κ).2 ∧ FGr F' fl)) := by
  have d0 := hd.1.2.1
  have a0 : mm_aI M 392 0 1 = some (nI (κ.2 5).length) := by rw [← d0]; exact h.r11 (j := 1) (by decide)
  rw [h.g11, obs, a0, obs]
  by_cases hl : (κ.2 5).length < 4
  · rw [if_neg (show ¬ (4 : Int32) ≤ nI (κ.2 5).length from nI_ge hl (by decide)), kdF_eq hl w.1.2.2.2.1]
    unfold fn_X10_statement_83
    rw [h.ck, obs, rf_must_ok h h8 (by decide), b2s, if_neg (by decide), h.g11, obs, a0, obs, h.ck, obs, show (8 : Int32) + nI (κ.2 5).length = nI (8 + (κ.2 5).length) from nI_add 8 _]
    refine RW.call (rf_kind hN h ht h8 he hk hk0 (ix := 8 + (κ.2 5).length) (by omega) false rfl) ?_
    rintro r M1 F1 A1 h1 ⟨z1, z2, K, rfl, z3, z4⟩
    generalize ((0, tkS tb n e, tkE tb n e) : Ps) = p at z2 z4 ⊢
    have a1 : mm_aI M1 392 0 1 = some (nI (κ.2 5).length) := by rw [← d0]; exact h1.r11 (j := 1) (by decide)
    rw [h1.g11, obs, a1, obs, nI_1]
    refine RW.w11 (j := 1) h1 (by decide) fun M2 h2 => ?_
    refine RW.ret h2 ⟨(Dft.a12 (fun q hq => z3 q (by omega))).tr Dft.a11, z1.kr, z2, fun z => ⟨?_, z1.2.2.2.1.trans hfl.1, hfl.2⟩⟩
    obtain ⟨y0, y1, y2, y3, y4⟩ := z4 z
    exact RelD.fk (v := fun r => (kq tb n false p r).2) hd w hl z3 y0 y1 y2 y3 y4
  · have h8l : (κ.2 5).length = 4 := by have := w.1.2.2.1; omega
    rw [if_pos (show (4 : Int32) ≤ nI (κ.2 5).length by rw [h8l]; decide), kdF_full (p := (0, tkS tb n e, tkE tb n e)) rfl hl]
    unfold fn_X10_statement_83
    rw [h.ck, obs]
    refine RW.call (rf_must_err h h8 (k := 4) (by decide)) ?_
    rintro r M1 F1 A1 h1 ⟨rfl, rfl, rfl⟩
    have n0 : ¬ ((8 * tkS tb n e + 4, tkS tb n e, tkE tb n e) : Ps).1 = 0 := by show ¬ 8 * tkS tb n e + 4 = 0; omega
    rw [if_pos rfl]
    refine RW.ret h1 ⟨Dft.rf, ⟨rfl, rfl, rfl, rfl⟩, RTP.mkE n0 ?_, fun z => absurd z n0⟩
    exact rte_mk (F := F) (s := tkS tb n e) (k := 4) hk.2.1 rfl (by omega) (by omega)
theorem rf_stB (hN : 2 ^ 15 ≤ N) (h : MAt M F A) (ht : TB (A 1) tb n) (h8 : F 8 = 0) {e : Nat} (he : e ≤ n) (hk : RTk tb n F e) (hk0 : ¬ tkK tb n e = 0) (hfl : FGr F fl) (hd : RelD A κ) (w : WFK κ) : RW M ((mm_gR M 389 10 11).bind fun b27 => (mm_aI M b27 0 2).bind fun v28 => if 8 ≤ v28 then fn_X10_statement_144 N M 389 0 389 else fn_X10_statement_144 N M 389 1 389) (fun _ F' A' => Dft A A' ∧ Kr F F' ∧ RTP tb n F' (bnS tb n (0, tkS tb n e, tkE tb n e) κ).1 ∧ ((bnS tb n (0, tkS tb n e, tkE tb n e) κ).1.1 = 0 → RelD A' (bnS tb n (0, tkS tb n e, tkE tb n e) κ).2 ∧ FGr F' fl)) := by
  have d0 := hd.1.1
  have d2 := hd.1.2.2.1
  have hE := tk_nz ht.2.1 he (c := tkK tb n e) rfl hk0
  have a0 : mm_aI M 392 0 2 = some (nI (κ.2 10).length) := by rw [← d2]; exact h.r11 (j := 2) (by decide)
  rw [h.g11, obs, a0, obs]
  by_cases hl : (κ.2 10).length < 8
  · rw [if_neg (show ¬ (8 : Int32) ≤ nI (κ.2 10).length from nI_ge hl (by decide)), bn_eq hl w.1.2.2.2.2.2]
    unfold fn_X10_statement_144
    rw [h.ck, obs, rf_must_ok h h8 (by decide), b2s, if_neg (by decide), h.ck, obs]
    refine RW.call (rf_nextTok hN h ht hk.1 (hk.2.2.1 hk0) hE.2) ?_
    rintro r M1 F1 A1 h1 ⟨rfl, t1, t2⟩
    have hp1 : RTP tb n F1 (0, tkS tb n e, tkE tb n e) := RTP.mk0 rfl ⟨t2.2.2.2.1.trans h8, t1, hE.2⟩
    have a1 : mm_aI M1 392 0 2 = some (nI (κ.2 10).length) := by rw [← d2]; exact h1.r11 (j := 2) (by decide)
    have a2 : mm_aI M1 392 0 0 = some (nI (κ.2 0).length) := by rw [← d0]; exact h1.r11 (j := 0) (by decide)
    simp only [h1.g13, h1.g11, a1, a2, h1.ck, obs]
    refine RW.call (rf_num hN h1 ht hp1 rfl 0 (nI (κ.2 0).length - 1)) ?_
    rintro r2 M2 F2 A2 h2 ⟨rfl, u1, u2, u3⟩
    rw [show (8 : Int32) + nI (κ.2 10).length = nI (8 + (κ.2 10).length) from nI_add 8 _]
    refine RW.w13 (j := 8 + (κ.2 10).length) h2 (by omega) fun M3 h3 => ?_
    rw [h3.i8, obs]
    by_cases e1 : (rdN tb n (0, tkS tb n e, tkE tb n e) 0 (nI (κ.2 0).length - 1)).1.1 = 0
    · obtain ⟨f8, -, -⟩ := u2.ok e1
      have a3 : mm_aI M3 392 0 2 = some (nI (κ.2 10).length) := by rw [← d2]; exact h3.r11 (j := 2) (by decide)
      rw [if_pos f8]
      simp only [h3.g14, h3.g11, a3, h3.ck, obs]
      refine RW.call (rf_num hN h3 ht u2 e1 1 100) ?_
      rintro r4 M4 F4 A4 h4 ⟨rfl, v1, v2, v3⟩
      rw [show (8 : Int32) + nI (κ.2 10).length = nI (8 + (κ.2 10).length) from nI_add 8 _]
      refine RW.w14 (j := 8 + (κ.2 10).length) h4 (by omega) fun M5 h5 => ?_
      refine (rf_s211 h5 (b := (κ.2 10).length) d2).imp ?_
      rintro r6 F6 A6 ⟨rfl, rfl⟩
      refine ⟨?_, (t2.kq.tr (u1.tr v1)).kr, v2, fun z => ⟨?_, (t2.kq.tr (u1.tr v1)).2.2.2.1.trans hfl.1, hfl.2⟩⟩
      · exact ((Dft.a13 (fun q hq => pk_un (by omega))).tr (Dft.a14 (fun q hq => pk_un (by omega)))).tr Dft.a11
      · rw [v3 z, u3 e1]
        exact RelD.bn hd w
    · obtain ⟨f8, -⟩ := u2.er e1
      rw [if_neg f8, rdN_er e1]
      refine (rf_s211 h3 (b := (κ.2 10).length) d2).imp ?_
      rintro r6 F6 A6 ⟨rfl, rfl⟩
      refine ⟨?_, (t2.kq.tr u1).kr, u2, fun z => absurd z e1⟩
      exact (Dft.a13 (fun q hq => pk_un (by omega))).tr Dft.a11
  · have h8l : (κ.2 10).length = 8 := by have := w.1.2.2.2.2.1; omega
    rw [if_pos (show (8 : Int32) ≤ nI (κ.2 10).length by rw [h8l]; decide), bn_full (p := (0, tkS tb n e, tkE tb n e)) rfl hl]
    unfold fn_X10_statement_144
    rw [h.ck, obs]
    refine RW.call (rf_must_err h h8 (k := 4) (by decide)) ?_
    rintro r M1 F1 A1 h1 ⟨rfl, rfl, rfl⟩
    have n0 : ¬ ((8 * tkS tb n e + 4, tkS tb n e, tkE tb n e) : Ps).1 = 0 := by show ¬ 8 * tkS tb n e + 4 = 0; omega
    rw [if_pos rfl]
    refine RW.ret h1 ⟨Dft.rf, ⟨rfl, rfl, rfl, rfl⟩, RTP.mkE n0 ?_, fun z => absurd z n0⟩
    exact rte_mk (F := F) (s := tkS tb n e) (k := 4) hk.2.1 rfl (by omega) (by omega)
theorem rf_stmt (hN : 2 ^ 15 ≤ N) (h : MAt M F A) (ht : TB (A 1) tb n) (h8 : F 8 = 0) {e : Nat} (he : e ≤ n) (hk : RTk tb n F e) (hk0 : ¬ tkK tb n e = 0) (hfl : FGr F fl) (hd : RelD A κ) (w : WFK κ) : RW M (fn_X10_statement N M 389) (fun _ F' A' => Dft A A' ∧ Kr F F' ∧ RTP tb n F' (stB tb n (tkK tb n e) (0, tkS tb n e, tkE tb n e) κ fl).1 ∧ ((stB tb n (tkK tb n e) (0, tkS tb n e, tkE tb n e) κ fl).1.1 = 0 → RelD A' (stB tb n (tkK tb n e) (0, tkS tb n e, tkE tb n e) κ fl).2.1 ∧ FGr F' (stB tb n (tkK tb n e) (0, tkS tb n e, tkE tb n e) κ fl).2.2)) := by
  have hiw : ∀ {u : UInt32} {l : List Int32}, WU u l → fn_X10_is N M 389 u = some (if wdB tb (tkK tb n e) (tkS tb n e) (tkE tb n e) l then 1 else 0, M) := fun hw => rf_is hN h ht h8 he hk hk0 hw
  unfold fn_X10_statement stB
  rw [h.ck, obs, hiw wu0, b2s]
  by_cases c0 : wdB tb (tkK tb n e) (tkS tb n e) (tkE tb n e) wd0 = true
  · rw [if_pos c0, if_neg (by decide), if_pos c0]
    exact rf_stT hN h ht h8 he hk hk0 hfl hd w
  · rw [if_neg c0, if_pos rfl, if_neg c0, h.ck, obs, hiw wu1, b2s]
    by_cases c1 : wdB tb (tkK tb n e) (tkS tb n e) (tkE tb n e) wd1 = true
    · rw [if_pos c1, if_neg (by decide), if_pos c1]
      exact rf_stF hN h ht h8 he hk hk0 hfl hd w
    · rw [if_neg c1, if_pos rfl, if_neg c1, h.ck, obs, hiw wu2, b2s]
      by_cases c2 : wdB tb (tkK tb n e) (tkS tb n e) (tkE tb n e) wd2 = true
      · rw [if_pos c2, if_neg (by decide), if_pos c2]
        exact rf_stB hN h ht h8 he hk hk0 hfl hd w
      · rw [if_neg c2, if_pos rfl, if_neg c2, h.ck, obs, hiw wu3, b2s]
        by_cases c3 : wdB tb (tkK tb n e) (tkS tb n e) (tkE tb n e) wd3 = true
        · rw [if_pos c3, if_neg (by decide), if_pos c3]
          exact rf_on (i := 0) hN h ht h8 he hk hk0 hfl (by omega) 1000 4000 rfl rfl hd
        · rw [if_neg c3, if_pos rfl, if_neg c3, h.ck, obs, hiw wu4, b2s]
          by_cases c4 : wdB tb (tkK tb n e) (tkS tb n e) (tkE tb n e) wd4 = true
          · rw [if_pos c4, if_neg (by decide), if_pos c4]
            exact rf_on (i := 1) hN h ht h8 he hk hk0 hfl (by omega) 0 20 rfl rfl hd
          · rw [if_neg c4, if_pos rfl, if_neg c4, h.ck, obs, hiw wu5, b2s]
            by_cases c5 : wdB tb (tkK tb n e) (tkS tb n e) (tkE tb n e) wd5 = true
            · rw [if_pos c5, if_pos c5, h.ck, obs, rf_must_ok h h8 (by decide), b2s, if_neg (by decide)]
              exact rf_on (i := 2) hN h ht h8 he hk hk0 hfl (by omega) 0 2000 rfl rfl hd
            · rw [if_neg c5, if_neg c5, h.ck, obs]
              refine RW.call (rf_must_err h h8 (k := 1) (by decide)) ?_
              rintro r M1 F1 A1 h1 ⟨rfl, rfl, rfl⟩
              have n0 : ¬ ((8 * tkS tb n e + 1, tkS tb n e, tkE tb n e) : Ps).1 = 0 := by show ¬ 8 * tkS tb n e + 1 = 0; omega
              rw [if_pos rfl]
              refine RW.ret h1 ⟨Dft.rf, ⟨rfl, rfl, rfl, rfl⟩, RTP.mkE n0 ?_, fun z => absurd z n0⟩
              exact rte_mk (F := F) (s := tkS tb n e) (k := 1) hk.2.1 rfl (by omega) (by omega)
end RX
