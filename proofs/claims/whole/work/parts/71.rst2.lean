/-! PURE: the reference's words, once, statement -/
def giv (fl : Nat → Nat) : Nat := fl 0 + 2 * fl 1 + 4 * fl 2
def FGr (F : Nat → Int32) (fl : Nat → Nat) : Prop := F 15 = nI (giv fl) ∧ fl 0 ≤ 1 ∧ fl 1 ≤ 1 ∧ fl 2 ≤ 1
theorem giv_b {fl : Nat → Nat} (h0 : fl 0 ≤ 1) (h1 : fl 1 ≤ 1) (h2 : fl 2 ≤ 1) {i : Nat} (hi : i < 3) : (nI (giv fl) >>> (nI i &&& 31)) &&& 1 = nI (fl i) ∧ nI (giv fl) ||| (1 <<< (nI i &&& 31)) = nI (giv (va_up fl i 1)) ∧ va_up fl i 1 0 ≤ 1 ∧ va_up fl i 1 1 ≤ 1 ∧ va_up fl i 1 2 ≤ 1 := by
  rcases (show i = 0 ∨ i = 1 ∨ i = 2 by omega) with rfl | rfl | rfl
  · show (nI (fl 0 + 2 * fl 1 + 4 * fl 2) >>> (nI 0 &&& 31)) &&& 1 = nI (fl 0) ∧ nI (fl 0 + 2 * fl 1 + 4 * fl 2) ||| (1 <<< (nI 0 &&& 31)) = nI (1 + 2 * fl 1 + 4 * fl 2) ∧ 1 ≤ 1 ∧ fl 1 ≤ 1 ∧ fl 2 ≤ 1
    rcases (show fl 0 = 0 ∨ fl 0 = 1 by omega) with a | a <;> rcases (show fl 1 = 0 ∨ fl 1 = 1 by omega) with b | b <;> rcases (show fl 2 = 0 ∨ fl 2 = 1 by omega) with c | c <;> rw [a, b, c] <;> decide +kernel
  · show (nI (fl 0 + 2 * fl 1 + 4 * fl 2) >>> (nI 1 &&& 31)) &&& 1 = nI (fl 1) ∧ nI (fl 0 + 2 * fl 1 + 4 * fl 2) ||| (1 <<< (nI 1 &&& 31)) = nI (fl 0 + 2 * 1 + 4 * fl 2) ∧ fl 0 ≤ 1 ∧ 1 ≤ 1 ∧ fl 2 ≤ 1
    rcases (show fl 0 = 0 ∨ fl 0 = 1 by omega) with a | a <;> rcases (show fl 1 = 0 ∨ fl 1 = 1 by omega) with b | b <;> rcases (show fl 2 = 0 ∨ fl 2 = 1 by omega) with c | c <;> rw [a, b, c] <;> decide +kernel
  · show (nI (fl 0 + 2 * fl 1 + 4 * fl 2) >>> (nI 2 &&& 31)) &&& 1 = nI (fl 2) ∧ nI (fl 0 + 2 * fl 1 + 4 * fl 2) ||| (1 <<< (nI 2 &&& 31)) = nI (fl 0 + 2 * fl 1 + 4 * 1) ∧ fl 0 ≤ 1 ∧ fl 1 ≤ 1 ∧ 1 ≤ 1
    rcases (show fl 0 = 0 ∨ fl 0 = 1 by omega) with a | a <;> rcases (show fl 1 = 0 ∨ fl 1 = 1 by omega) with b | b <;> rcases (show fl 2 = 0 ∨ fl 2 = 1 by omega) with c | c <;> rw [a, b, c] <;> decide +kernel
/-- the draft stands for this configuration -/
def RelD (A : Nat → Nat → Int32) (κ : Cf) : Prop := RelK (A 11) (fun q => A 12 (60 + q)) (fun q => A 13 (8 + q)) (fun q => A 14 (8 + q)) κ
/-- only the draft has changed -/
def Dft (A A' : Nat → Nat → Int32) : Prop := (∀ j, ¬ (j = 11 ∨ j = 12 ∨ j = 13 ∨ j = 14) → A' j = A j) ∧ (∀ q, q < 60 → A' 12 q = A 12 q) ∧ (∀ q, q < 8 → A' 13 q = A 13 q) ∧ ∀ q, q < 8 → A' 14 q = A 14 q
theorem Dft.rf {A : Nat → Nat → Int32} : Dft A A := ⟨fun _ _ => rfl, fun _ _ => rfl, fun _ _ => rfl, fun _ _ => rfl⟩
theorem Dft.tr {A A' A'' : Nat → Nat → Int32} (h : Dft A A') (g : Dft A' A'') : Dft A A'' := ⟨fun j hj => (g.1 j hj).trans (h.1 j hj), fun q hq => (g.2.1 q hq).trans (h.2.1 q hq), fun q hq => (g.2.2.1 q hq).trans (h.2.2.1 q hq), fun q hq => (g.2.2.2 q hq).trans (h.2.2.2 q hq)⟩
theorem Dft.a11 {A : Nat → Nat → Int32} {D : Nat → Int32} : Dft A (va_up A 11 D) := ⟨fun j hj => va_up_ne A D (by omega), fun _ _ => rfl, fun _ _ => rfl, fun _ _ => rfl⟩
theorem Dft.a12 {A : Nat → Nat → Int32} {K : Nat → Int32} (h : ∀ q, q < 60 → K q = A 12 q) : Dft A (va_up A 12 K) := ⟨fun j hj => va_up_ne A K (by omega), h, fun _ _ => rfl, fun _ _ => rfl⟩
theorem Dft.a13 {A : Nat → Nat → Int32} {K : Nat → Int32} (h : ∀ q, q < 8 → K q = A 13 q) : Dft A (va_up A 13 K) := ⟨fun j hj => va_up_ne A K (by omega), fun _ _ => rfl, h, fun _ _ => rfl⟩
theorem Dft.a14 {A : Nat → Nat → Int32} {K : Nat → Int32} (h : ∀ q, q < 8 → K q = A 14 q) : Dft A (va_up A 14 K) := ⟨fun j hj => va_up_ne A K (by omega), fun _ _ => rfl, fun _ _ => rfl, h⟩
def Kr (F F' : Nat → Int32) : Prop := F' 0 = F 0 ∧ F' 2 = F 2 ∧ F' 3 = F 3 ∧ F' 18 = F 18
theorem Kr.rf {F : Nat → Int32} : Kr F F := ⟨rfl, rfl, rfl, rfl⟩
theorem Kr.tr {F F' F'' : Nat → Int32} (h : Kr F F') (g : Kr F' F'') : Kr F F'' := ⟨g.1.trans h.1, g.2.1.trans h.2.1, g.2.2.1.trans h.2.2.1, g.2.2.2.trans h.2.2.2⟩
theorem Kq.kr {F F' : Nat → Int32} (h : Kq F F') : Kr F F' := ⟨h.1, h.2.1, h.2.2.1, h.2.2.2.2⟩
theorem rdA_er {tb : Nat → Int32} {n r : Nat} {lo hi : Int32} {x : Ps × Cf} (h : ¬ x.1.1 = 0) : (rdA tb n r lo hi x).1 = x.1 := by
  unfold rdA
  rw [rdN_er h]
theorem rdA_er2 {tb : Nat → Int32} {n r : Nat} {lo hi : Int32} {x : Ps × Cf} (h : ¬ x.1.1 = 0) : ¬ (rdA tb n r lo hi x).1.1 = 0 := by
  rw [rdA_er h]
  exact h
theorem kdT_full {tb : Nat → Int32} {n : Nat} {p : Ps} {κ : Cf} (h0 : p.1 = 0) (hl : ¬ (κ.2 0).length < 8) : (kdS tb n 0 true p κ).1 = (8 * p.2.1 + 4, p.2) := by
  have hd : (!decide ((κ.2 0).length < capK 0)) = true := by
    have : ¬ (κ.2 0).length < capK 0 := hl
    simp [this]
  have e0 : failS p true 4 = (8 * p.2.1 + 4, p.2) := by
    unfold failS
    rw [if_pos rfl, if_pos h0]
  unfold kdS kd0
  rw [hd, e0, if_pos rfl]
  have n0 : ¬ (((8 * p.2.1 + 4, p.2), κ) : Ps × Cf).1.1 = 0 := by show ¬ 8 * p.2.1 + 4 = 0; omega
  have e1 := rdA_er (tb := tb) (n := n) (r := 0) (lo := 1) (hi := 500) n0
  have n1 := rdA_er2 (tb := tb) (n := n) (r := 0) (lo := 1) (hi := 500) n0
  have e2 := rdA_er (tb := tb) (n := n) (r := 0 + 1) (lo := 1000) (hi := 4000) n1
  have n2 := rdA_er2 (tb := tb) (n := n) (r := 0 + 1) (lo := 1000) (hi := 4000) n1
  have e3 := rdA_er (tb := tb) (n := n) (r := 0 + 2) (lo := 1) (hi := 200) n2
  have n3 := rdA_er2 (tb := tb) (n := n) (r := 0 + 2) (lo := 1) (hi := 200) n2
  have e4 := rdA_er (tb := tb) (n := n) (r := 0 + 3) (lo := 0) (hi := 9999) n3
  have n4 := rdA_er2 (tb := tb) (n := n) (r := 0 + 3) (lo := 0) (hi := 9999) n3
  have e5 := rdA_er (tb := tb) (n := n) (r := 0 + 4) (lo := 1) (hi := 500) n4
  exact e5.trans (e4.trans (e3.trans (e2.trans e1)))
theorem kdF_full {tb : Nat → Int32} {n : Nat} {p : Ps} {κ : Cf} (h0 : p.1 = 0) (hl : ¬ (κ.2 5).length < 4) : (kdS tb n 5 false p κ).1 = (8 * p.2.1 + 4, p.2) := by
  have hd : (!decide ((κ.2 5).length < capK 5)) = true := by
    have : ¬ (κ.2 5).length < capK 5 := hl
    simp [this]
  have e0 : failS p true 4 = (8 * p.2.1 + 4, p.2) := by
    unfold failS
    rw [if_pos rfl, if_pos h0]
  unfold kdS kd0
  rw [hd, e0, if_neg (by decide)]
  have n1 : ¬ (((8 * p.2.1 + 4, p.2), adR κ 5 0) : Ps × Cf).1.1 = 0 := by show ¬ 8 * p.2.1 + 4 = 0; omega
  have e2 := rdA_er (tb := tb) (n := n) (r := 5 + 1) (lo := 1000) (hi := 4000) n1
  have n2 := rdA_er2 (tb := tb) (n := n) (r := 5 + 1) (lo := 1000) (hi := 4000) n1
  have e3 := rdA_er (tb := tb) (n := n) (r := 5 + 2) (lo := 1) (hi := 200) n2
  have n3 := rdA_er2 (tb := tb) (n := n) (r := 5 + 2) (lo := 1) (hi := 200) n2
  have e4 := rdA_er (tb := tb) (n := n) (r := 5 + 3) (lo := 0) (hi := 9999) n3
  have n4 := rdA_er2 (tb := tb) (n := n) (r := 5 + 3) (lo := 0) (hi := 9999) n3
  have e5 := rdA_er (tb := tb) (n := n) (r := 5 + 4) (lo := 1) (hi := 500) n4
  exact e5.trans (e4.trans (e3.trans e2))
theorem bn_full {tb : Nat → Int32} {n : Nat} {p : Ps} {κ : Cf} (h0 : p.1 = 0) (hl : ¬ (κ.2 10).length < 8) : (bnS tb n p κ).1 = (8 * p.2.1 + 4, p.2) := by
  have hd : (!decide ((κ.2 10).length < capK 10)) = true := by
    have : ¬ (κ.2 10).length < capK 10 := hl
    simp [this]
  have e0 : failS p true 4 = (8 * p.2.1 + 4, p.2) := by
    unfold failS
    rw [if_pos rfl, if_pos h0]
  unfold bnS
  rw [hd, e0]
  have n1 : ¬ (((8 * p.2.1 + 4, p.2), κ) : Ps × Cf).1.1 = 0 := by show ¬ 8 * p.2.1 + 4 = 0; omega
  have e2 := rdA_er (tb := tb) (n := n) (r := 10) (lo := 0) (hi := nI (κ.2 0).length - 1) n1
  have n2 := rdA_er2 (tb := tb) (n := n) (r := 10) (lo := 0) (hi := nI (κ.2 0).length - 1) n1
  have e3 := rdA_er (tb := tb) (n := n) (r := 11) (lo := 1) (hi := 100) n2
  exact e3.trans e2
section RV
variable {N : Nat} {M : Mem} {F : Nat → Int32} {A : Nat → Nat → Int32} {tb : Nat → Int32} {n : Nat} {κ : Cf} {fl : Nat → Nat}
theorem rf_is35 (h : MAt M F A) (ht : TB (A 1) tb n) (h3 : F 3 = nI n) {s : Nat} (h4 : F 4 = nI s) (hs : s ≤ 900) {u : UInt32} {l : List Int32} (hw : WU u l) : ∀ (m i : Nat), i ≤ l.length → l.length - i < m → fn_X10_is_35 N m M 389 u (nI i) = some (if wdA tb (s + i) (l.drop i) then 1 else 0, M) := by
  obtain ⟨w1, w2, w3, w4⟩ := hw
  intro m
  induction m with
  | zero => intro i _ h; omega
  | succ m ih =>
    intro i hi hm
    rw [fn_X10_is_35.eq_2, w1, obs, w2, b2s]
    by_cases q : i = l.length
    · subst q
      rw [if_pos (Int32.le_refl _), List.drop_length]
      rfl
    · have hil : i < l.length := by omega
      rw [if_neg (nI_ge hil (by omega)), h.i4, obs, h.ck, obs, h4, nI_add, rf_byte h ht h3 (by omega), b2s, obs, w3 N M i hil, b2s, nI_1, ih (i + 1) (by omega) (by omega), List.drop_eq_getElem_cons hil, wdA]
      have e : l.getD i 0 = l[i] := by simp [List.getD_eq_getElem?_getD, hil]
      rw [e, show s + (i + 1) = s + i + 1 by omega]
      by_cases z : tb (s + i) = l[i]
      · rw [if_pos z, if_pos z]
      · rw [if_neg z, if_neg z]
        rfl
theorem rf_is (hN : 2 ^ 15 ≤ N) (h : MAt M F A) (ht : TB (A 1) tb n) (h8 : F 8 = 0) {e : Nat} (he : e ≤ n) (hk : RTk tb n F e) (hk0 : ¬ tkK tb n e = 0) {u : UInt32} {l : List Int32} (hw : WU u l) : fn_X10_is N M 389 u = some (if wdB tb (tkK tb n e) (tkS tb n e) (tkE tb n e) l then 1 else 0, M) := by
  obtain ⟨k1, k2, k3, k4, k5⟩ := hk
  have h800 := ht.2.2
  obtain ⟨b1, b2, b3, b4, b5, b6, b7⟩ := tk_bd ht.2.1 he
  have k3' := k3 hk0
  unfold fn_X10_is wdB
  rw [h.i8, obs, if_pos h8, h.i6, obs, k4]
  by_cases q : tkK tb n e = 2
  · have hq := nI_eq (a := tkE tb n e - tkS tb n e) (b := l.length) (by omega) (by have := hw.2.2.2; omega)
    rw [q, if_pos (show rfK 2 = 1 by decide), h.i5, obs, h.i4, obs, hw.1, obs, hw.2.1, b2s, k3', k2, pk_sub b5]
    by_cases z : tkE tb n e - tkS tb n e = l.length
    · have e28 := rf_is35 (N := N) h ht k1 k2 (by omega) hw N 0 (by omega) (by have := hw.2.2.2; omega)
      rw [nI_0] at e28
      rw [if_pos (hq.mpr z), e28]
      simp [z]
    · rw [if_neg (fun y => z (hq.mp y))]
      simp [z]
  · rw [if_neg (rfK_1 q)]
    simp [q]
/-- the text of a statement that may occur once, behind its word -/
theorem rf_once (hN : 2 ^ 15 ≤ N) (h : MAt M F A) (ht : TB (A 1) tb n) (h8 : F 8 = 0) {e : Nat} (he : e ≤ n) (hk : RTk tb n F e) (hk0 : ¬ tkK tb n e = 0) (hfl : FGr F fl) {i : Nat} (hi : i < 3) (lo hi' : Int32) : RW M (fn_X10_once N M 389 (nI i) lo hi') (fun r F' A' => A' = A ∧ Kr F F' ∧ RTP tb n F' (rdN tb n (failS (0, tkS tb n e, tkE tb n e) (decide (fl i = 1)) 3) lo hi').1 ∧ ((rdN tb n (failS (0, tkS tb n e, tkE tb n e) (decide (fl i = 1)) 3) lo hi').1.1 = 0 → FGr F' (va_up fl i 1) ∧ r = (rdN tb n (failS (0, tkS tb n e, tkE tb n e) (decide (fl i = 1)) 3) lo hi').2)) := by
  obtain ⟨g1, g2, g3, g4⟩ := hfl
  obtain ⟨c1, c2, c3⟩ := giv_b g2 g3 g4 hi
  have hE := tk_nz ht.2.1 he (c := tkK tb n e) rfl hk0
  have hfi : fl i ≤ 1 := by rcases (show i = 0 ∨ i = 1 ∨ i = 2 by omega) with rfl | rfl | rfl <;> assumption
  unfold fn_X10_once
  rw [h.i15, obs, g1, c1]
  by_cases q : fl i = 0
  · have ed : decide (fl i = 1) = false := by rw [q]; decide
    rw [if_pos (by rw [q, nI_0]), ed, failS_f]
    unfold fn_X10_once_17
    rw [h.ck, obs, rf_must_ok h h8 (by decide), b2s, h.i15, obs, g1, c2]
    refine RW.pF h fun M1 h1 => ?_
    have e8 : upd F 15 (nI (giv (va_up fl i 1))) 8 = F 8 := rfl
    rw [h1.i8, obs, e8, if_pos h8, h1.ck, obs]
    refine RW.call (rf_nextTok hN h1 ht hk.1 (hk.2.2.1 hk0) hE.2) ?_
    rintro r M2 F2 A2 h2 ⟨rfl, t1, t2⟩
    rw [h2.ck, obs]
    have hp2 : RTP tb n F2 (0, tkS tb n e, tkE tb n e) := RTP.mk0 rfl ⟨t2.2.2.2.1.trans h8, t1, hE.2⟩
    refine RW.call (rf_num hN h2 ht hp2 rfl lo hi') ?_
    rintro r3 M3 F3 A3 h3 ⟨rfl, u1, u2, u3⟩
    have q15 : F3 15 = nI (giv (va_up fl i 1)) := u1.2.2.2.1.trans t2.2.2.2.2.2.1
    refine RW.ret h3 ⟨rfl, ?_, u2, fun z => ⟨⟨q15, c3⟩, u3 z⟩⟩
    have kk := (t2.kq.tr u1).kr
    exact ⟨kk.1, kk.2.1, kk.2.2.1, kk.2.2.2⟩
  · have q1 : fl i = 1 := by omega
    have ed : decide (fl i = 1) = true := by rw [q1]; decide
    have ef : failS ((0, tkS tb n e, tkE tb n e) : Ps) true 3 = (8 * tkS tb n e + 3, tkS tb n e, tkE tb n e) := rfl
    have n0 : ¬ ((8 * tkS tb n e + 3, tkS tb n e, tkE tb n e) : Ps).1 = 0 := by show ¬ 8 * tkS tb n e + 3 = 0; omega
    rw [if_neg (by rw [q1]; decide), ed, ef, rdN_er n0]
    unfold fn_X10_once_17
    rw [h.ck, obs]
    refine RW.call (rf_must_err h h8 (k := 3) (by decide)) ?_
    rintro r M1 F1 A1 h1 ⟨rfl, rfl, rfl⟩
    have e15 : upd (upd F 8 3) 9 (F 4) 15 = F 15 := rfl
    rw [h1.i15, obs, e15, g1, c2]
    refine RW.pF h1 fun M2 h2 => ?_
    have e8 : upd (upd (upd F 8 3) 9 (F 4)) 15 (nI (giv (va_up fl i 1))) 8 = 3 := rfl
    rw [h2.i8, obs, e8, if_neg (by decide)]
    refine RW.ret h2 ⟨rfl, ⟨rfl, rfl, rfl, rfl⟩, RTP.mkE n0 ?_, fun z => absurd z n0⟩
    exact rte_mk (F := F) (s := tkS tb n e) (k := 3) hk.2.1 rfl (by omega) (by omega)
end RV
