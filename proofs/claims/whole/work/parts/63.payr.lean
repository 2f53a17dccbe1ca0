/-! PURE: payouts in the reference -/
def eO : Option Nat → Nat
  | none => 1000000
  | some c => c
theorem FewC.nilz {s v : Nat → Nat} {t r a : Nat} (hz : ∀ u, t ≤ u → s u = 0) : FewC s v t r a (if a = 0 then some 0 else none) := by
  have h0 : ∀ n, PayV s v n t r a → a = 0 := by
    intro n hn
    have e : ∀ u, t ≤ u → u < t + r → n u = 0 := fun u h1 h2 => by
      have := hn.1 u h1 h2
      rw [hz u h1] at this
      omega
    rw [← hn.2]
    exact SR_zero r t (fun u h1 h2 => by rw [e u h1 h2, Nat.zero_mul])
  by_cases h : a = 0
  · rw [if_pos h]
    refine ⟨⟨fun _ => 0, ⟨fun u _ _ => Nat.zero_le _, ?_⟩, SR_zero r t (fun _ _ _ => rfl)⟩, fun n _ => Nat.zero_le _⟩
    rw [h]
    exact SR_zero r t (fun u _ _ => Nat.zero_mul _)
  · rw [if_neg h]
    intro n hn
    exact h (h0 n hn)
theorem GrV.nilz {s v n : Nat → Nat} : ∀ r t, (∀ u, t ≤ u → s u = 0) → (∀ u, t ≤ u → n u = 0) → GrV s v n t r 0 := by
  intro r
  induction r with
  | zero => intro t _ _; rw [GrV]
  | succ r ih =>
    intro t hz hn
    have e := hn t (Nat.le_refl _)
    have f1 : FewC s v (t + 1) r 0 (some 0) := by
      have := FewC.nilz (s := s) (v := v) (t := t + 1) (r := r) (a := 0) (fun u hu => hz u (by omega))
      rwa [if_pos rfl] at this
    have f2 : FewC s v t (r + 1) 0 (some 0) := by
      have := FewC.nilz (s := s) (v := v) (t := t) (r := r + 1) (a := 0) hz
      rwa [if_pos rfl] at this
    rw [GrV, e, Nat.zero_mul, Nat.sub_zero]
    refine ⟨Nat.zero_le _, Nat.le_refl _, ⟨0, f1, f2⟩, fun m c' h1 h2 => ?_, ih (t + 1) (fun u hu => hz u (by omega)) (fun u hu => hn u (by omega))⟩
    rw [hz t (Nat.le_refl _)] at h2
    omega
theorem SR_suf {f : Nat → Nat} {c t : Nat} (h : SR f 0 8 ≤ c) (ht : t ≤ 8) : SR f t (8 - t) ≤ c := by
  have e := SR_split f t 0 (8 - t)
  rw [show t + (8 - t) = 8 by omega, Nat.zero_add] at e
  omega
theorem pay_bd {s v n : Nat → Nat} {t a : Nat} (hs : SR s 0 8 ≤ 800) (ht : t ≤ 8) (h : PayV s v n t (8 - t) a) : SR n t (8 - t) ≤ 800 := Nat.le_trans (SR_le _ _ h.1) (SR_suf hs ht)
theorem few_bd {s v : Nat → Nat} {t a : Nat} {o : Option Nat} (hs : SR s 0 8 ≤ 800) (ht : t ≤ 8) (h : FewC s v t (8 - t) a o) : eO o ≤ 1000000 ∧ ∀ c, o = some c → c ≤ 800 := by
  cases o with
  | none => exact ⟨Nat.le_refl _, fun c q => by cases q⟩
  | some c =>
    obtain ⟨⟨n, n1, n2⟩, -⟩ := h
    have := pay_bd hs ht n1
    refine ⟨?_, fun c' q => ?_⟩
    · show c ≤ 1000000
      omega
    · injection q with q
      omega
def FI (s v : Nat → Nat) (t r a k B : Nat) : Prop := (B = 1000000 ∨ ∃ n, PayV s v n t (r + 1) a ∧ SR n t (r + 1) = B) ∧ B ≤ 1000000 ∧ ∀ n, PayV s v n t (r + 1) a → n t < k → B ≤ SR n t (r + 1)
theorem FI.start {s v : Nat → Nat} {t r a : Nat} : FI s v t r a 0 1000000 := ⟨Or.inl rfl, Nat.le_refl _, fun n _ h => by omega⟩
theorem FI.step {s v : Nat → Nat} {t r a k B : Nat} {o : Option Nat} (h : FI s v t r a k B) (hk : k ≤ s t) (hv : k * v t ≤ a) (ho : FewC s v (t + 1) r (a - k * v t) o) : FI s v t r a (k + 1) (if k + eO o < B then k + eO o else B) := by
  obtain ⟨h1, h2, h3⟩ := h
  have hn : ∀ n, PayV s v n t (r + 1) a → n t < k + 1 → n t < k ∨ (PayV s v n (t + 1) r (a - k * v t) ∧ SR n t (r + 1) = k + SR n (t + 1) r) := by
    intro n p q
    by_cases e : n t = k
    · have := pay_cons p
      rw [e] at this
      exact Or.inr ⟨this.2.2, by rw [SR, e]⟩
    · exact Or.inl (by omega)
  cases o with
  | none =>
    rw [if_neg (show ¬ k + eO none < B by show ¬ k + 1000000 < B; omega)]
    refine ⟨h1, h2, fun n p q => ?_⟩
    rcases hn n p q with z | ⟨z, -⟩
    · exact h3 n p z
    · exact absurd z (ho n)
  | some c =>
    obtain ⟨⟨m, m1, m2⟩, m3⟩ := ho
    obtain ⟨p1, p2⟩ := pay_mk hk hv m1
    rw [m2] at p2
    show FI s v t r a (k + 1) (if k + c < B then k + c else B)
    by_cases e : k + c < B
    · rw [if_pos e]
      refine ⟨Or.inr ⟨_, p1, p2⟩, by omega, fun n p q => ?_⟩
      rcases hn n p q with z | ⟨z1, z2⟩
      · have := h3 n p z; omega
      · have := m3 n z1; omega
    · rw [if_neg e]
      refine ⟨h1, h2, fun n p q => ?_⟩
      rcases hn n p q with z | ⟨z1, z2⟩
      · exact h3 n p z
      · have := m3 n z1; omega
theorem FI.fin {s v : Nat → Nat} {t r a k B : Nat} (h : FI s v t r a k B) (hk : ∀ n, PayV s v n t (r + 1) a → n t < k) (hb : ∀ n, PayV s v n t (r + 1) a → SR n t (r + 1) ≤ 800) : ∃ o, FewC s v t (r + 1) a o ∧ eO o = B := by
  obtain ⟨h1, h2, h3⟩ := h
  rcases h1 with rfl | ⟨n, n1, n2⟩
  · exact ⟨none, fun n p => by have := h3 n p (hk n p); have := hb n p; omega, rfl⟩
  · exact ⟨some B, ⟨⟨n, n1, n2⟩, fun q p => h3 q p (hk q p)⟩, rfl⟩
def TabR (s v : Nat → Nat) (T : Nat → Int32) (am t : Nat) : Prop := ∀ a, a ≤ am → ∃ o, FewC s v t (8 - t) a o ∧ T (5001 * t + a) = nI (eO o)
theorem vN_fact {κ : Cf} (w : WFK κ) {t : Nat} (ht : t < (κ.2 0).length) : 1 ≤ vN κ t ∧ vN κ t ≤ 500 ∧ (κ.2 0).getD t 0 = nI (vN κ t) := by
  obtain ⟨⟨v, v1, v2, v3⟩, -⟩ := w.2.1 t ht
  have hvN : vN κ t = v := by unfold vN; rw [v3, nI_clamp (by omega)]
  rw [hvN]
  exact ⟨v1, v2, v3⟩
section RY
variable {N : Nat} {M : Mem} {F : Nat → Int32} {A : Nat → Nat → Int32} {bf : List Int32} {κ : Cf} {σ : St} {U : List St} {sn : Nat → Option St} {s : Nat → Nat}
theorem rf_cv (h : MAt M F A) (k : RelK (A 10) (A 12) (A 13) (A 14) κ) (w : WFK κ) {t : Nat} (ht : t < (κ.2 0).length) : fn_X10_coinValue N M 389 (nI t) = some (nI (vN κ t), M) := by
  have h8 := w.1.1
  unfold fn_X10_coinValue
  simp (disch := omega) only [MAt.ck h, MAt.i0 h, MAt.i2 h, MAt.i3 h, MAt.i4 h, MAt.i5 h, MAt.i6 h, MAt.i7 h, MAt.i8 h, MAt.i9 h, MAt.i15 h, MAt.i18 h, MAt.i21 h, MAt.i22 h, MAt.i23 h, MAt.i24 h, MAt.g1 h, MAt.n1 h, MAt.r1 h, MAt.l1 h, MAt.g10 h, MAt.n10 h, MAt.r10 h, MAt.l10 h, MAt.g11 h, MAt.n11 h, MAt.r11 h, MAt.l11 h, MAt.g12 h, MAt.n12 h, MAt.r12 h, MAt.l12 h, MAt.g13 h, MAt.n13 h, MAt.r13 h, MAt.l13 h, MAt.g14 h, MAt.n14 h, MAt.r14 h, MAt.l14 h, MAt.g16 h, MAt.n16 h, MAt.r16 h, MAt.l16 h, MAt.g17 h, MAt.n17 h, MAt.r17 h, MAt.l17 h, MAt.g19 h, MAt.n19 h, MAt.r19 h, MAt.l19 h, MAt.g20 h, MAt.n20 h, MAt.r20 h, MAt.l20 h, MAt.g25 h, MAt.n25 h, MAt.r25 h, MAt.l25 h, MAt.g26 h, MAt.n26 h, MAt.r26 h, MAt.l26 h, MAt.g27 h, MAt.n27 h, MAt.r27 h, MAt.l27 h, MAt.g28 h, MAt.n28 h, MAt.r28 h, MAt.l28 h, obs, b2s, lA, lB, lM, nI_add, pk_mul]
  rw [k.2.1 t ht 0 (by omega), (vN_fact w ht).2.2]
theorem rf_fw (h : MAt M F A) {t a : Nat} (ht : t ≤ 8) (ha : a ≤ 5000) : fn_X10_fewestAt N M 389 (nI t) (nI a) = some (A 25 (5001 * t + a), M) := by
  unfold fn_X10_fewestAt
  simp (disch := omega) only [MAt.ck h, MAt.i0 h, MAt.i2 h, MAt.i3 h, MAt.i4 h, MAt.i5 h, MAt.i6 h, MAt.i7 h, MAt.i8 h, MAt.i9 h, MAt.i15 h, MAt.i18 h, MAt.i21 h, MAt.i22 h, MAt.i23 h, MAt.i24 h, MAt.g1 h, MAt.n1 h, MAt.r1 h, MAt.l1 h, MAt.g10 h, MAt.n10 h, MAt.r10 h, MAt.l10 h, MAt.g11 h, MAt.n11 h, MAt.r11 h, MAt.l11 h, MAt.g12 h, MAt.n12 h, MAt.r12 h, MAt.l12 h, MAt.g13 h, MAt.n13 h, MAt.r13 h, MAt.l13 h, MAt.g14 h, MAt.n14 h, MAt.r14 h, MAt.l14 h, MAt.g16 h, MAt.n16 h, MAt.r16 h, MAt.l16 h, MAt.g17 h, MAt.n17 h, MAt.r17 h, MAt.l17 h, MAt.g19 h, MAt.n19 h, MAt.r19 h, MAt.l19 h, MAt.g20 h, MAt.n20 h, MAt.r20 h, MAt.l20 h, MAt.g25 h, MAt.n25 h, MAt.r25 h, MAt.l25 h, MAt.g26 h, MAt.n26 h, MAt.r26 h, MAt.l26 h, MAt.g27 h, MAt.n27 h, MAt.r27 h, MAt.l27 h, MAt.g28 h, MAt.n28 h, MAt.r28 h, MAt.l28 h, obs, b2s, lA, lB, lM, nI_add, pk_mul]
theorem va25 {S : Nat → Int32} : va_up A 25 S 25 = S := by simp [va_up]
theorem rf_lp128 (h : MAt M F A) (k : RelK (A 10) (A 12) (A 13) (A 14) κ) (w : WFK κ) (hs : SR s 0 8 ≤ 800) (hs8 : ∀ u, u < 8 → s u ≤ 800) (hst : ∀ u, u < 8 → A 26 u = nI (s u)) {am t a : Nat} (ham : am ≤ 5000) (ha : a ≤ am) (ht : t < (κ.2 0).length) (hT : TabR s (vN κ) (A 25) am (t + 1)) {K108 : Mem → Nat → Int32 → Int32 → Option (Unit × Mem)} {K115 : Mem → Nat → Int32 → Int32 → Int32 → Option (Unit × Mem)} : ∀ (m i B : Nat), FI s (vN κ) t (7 - t) a i B → i ≤ s t + 1 → s t + 1 - i < m → ∃ o, FewC s (vN κ) t (8 - t) a o ∧ fn_X10_layPayouts_128 N K108 K115 m M 389 (nI am) (nI t) (nI a) (nI B) (nI i) = fn_X10_layPayouts_186 N K108 K115 M 389 (nI am) (nI t) (nI a) (nI (eO o)) := by
  have h8 := w.1.1
  have ht8 : t < 8 := by omega
  have hst8 := hs8 t ht8
  obtain ⟨v1, v2, -⟩ := vN_fact w ht
  have e8 : 8 - t = (7 - t) + 1 := by omega
  have hb : ∀ n, PayV s (vN κ) n t ((7 - t) + 1) a → SR n t ((7 - t) + 1) ≤ 800 := fun n p => by
    have := pay_bd hs (show t ≤ 8 by omega) (v := vN κ) (n := n) (a := a) (by rw [e8]; exact p)
    rwa [e8] at this
  intro m
  induction m with
  | zero => intro i B _ _ h; omega
  | succ m ih =>
    intro i B hF hi hm
    have hB := hF.2.1
    rw [fn_X10_layPayouts_128.eq_2]
    simp (disch := omega) only [MAt.ck h, MAt.i0 h, MAt.i2 h, MAt.i3 h, MAt.i4 h, MAt.i5 h, MAt.i6 h, MAt.i7 h, MAt.i8 h, MAt.i9 h, MAt.i15 h, MAt.i18 h, MAt.i21 h, MAt.i22 h, MAt.i23 h, MAt.i24 h, MAt.g1 h, MAt.n1 h, MAt.r1 h, MAt.l1 h, MAt.g10 h, MAt.n10 h, MAt.r10 h, MAt.l10 h, MAt.g11 h, MAt.n11 h, MAt.r11 h, MAt.l11 h, MAt.g12 h, MAt.n12 h, MAt.r12 h, MAt.l12 h, MAt.g13 h, MAt.n13 h, MAt.r13 h, MAt.l13 h, MAt.g14 h, MAt.n14 h, MAt.r14 h, MAt.l14 h, MAt.g16 h, MAt.n16 h, MAt.r16 h, MAt.l16 h, MAt.g17 h, MAt.n17 h, MAt.r17 h, MAt.l17 h, MAt.g19 h, MAt.n19 h, MAt.r19 h, MAt.l19 h, MAt.g20 h, MAt.n20 h, MAt.r20 h, MAt.l20 h, MAt.g25 h, MAt.n25 h, MAt.r25 h, MAt.l25 h, MAt.g26 h, MAt.n26 h, MAt.r26 h, MAt.l26 h, MAt.g27 h, MAt.n27 h, MAt.r27 h, MAt.l27 h, MAt.g28 h, MAt.n28 h, MAt.r28 h, MAt.l28 h, obs, b2s, lA, lB, lM, nI_add, pk_mul]
    rw [hst t ht8]
    have hc1 := nI_ltI (a := s t) (b := i) (by omega) (by omega)
    by_cases c1 : s t < i
    · rw [if_pos (hc1.mpr c1)]
      obtain ⟨o, o1, o2⟩ := hF.fin (fun n p => by have := p.1 t (by omega) (by omega); omega) hb
      exact ⟨o, by rw [e8]; exact o1, by rw [o2]⟩
    · have hiv : i * vN κ t ≤ 800 * 500 := Nat.mul_le_mul (by omega) v2
      rw [if_neg (fun q => c1 (hc1.mp q)), rf_cv h k w ht, b2s, pk_mul]
      have hc2 := nI_ltI (a := a) (b := i * vN κ t) (by omega) (by omega)
      by_cases c2 : a < i * vN κ t
      · rw [if_pos (hc2.mpr c2)]
        obtain ⟨o, o1, o2⟩ := hF.fin (fun n p => by
          have := (pay_cons p).2.1
          by_cases q : n t < i
          · exact q
          · have := Nat.mul_le_mul_right (vN κ t) (show i ≤ n t by omega)
            omega) hb
        exact ⟨o, by rw [e8]; exact o1, by rw [o2]⟩
      · obtain ⟨o, o1, o2⟩ := hT (a - i * vN κ t) (by omega)
        obtain ⟨b1, -⟩ := few_bd hs (show t + 1 ≤ 8 by omega) o1
        rw [if_neg (fun q => c2 (hc2.mp q)), h.ck, obs, rf_cv h k w ht, b2s, h.ck, obs, pk_mul, pk_sub (by omega), rf_fw h (by omega) (by omega), b2s, o2, nI_add]
        have hc3 := nI_ltI (a := i + eO o) (b := B) (by omega) (by omega)
        have e3 : (if nI (i + eO o) < nI B then nI (i + eO o) else nI B) = nI (if i + eO o < B then i + eO o else B) := by
          by_cases c3 : i + eO o < B
          · rw [if_pos (hc3.mpr c3), if_pos c3]
          · rw [if_neg (fun q => c3 (hc3.mp q)), if_neg c3]
        rw [e3]
        simp only [mm_lt]
        exact ih (i + 1) _ (hF.step (by omega) (by omega) (by rw [show 7 - t = 8 - (t + 1) by omega]; exact o1)) (by omega) (by omega)
theorem rf_lp115 (hN : 2 ^ 15 ≤ N) (k : RelK (A 10) (A 12) (A 13) (A 14) κ) (w : WFK κ) (hs : SR s 0 8 ≤ 800) (hs8 : ∀ u, u < 8 → s u ≤ 800) (hst : ∀ u, u < 8 → A 26 u = nI (s u)) {am t : Nat} (ham : am ≤ 5000) (ht : t < (κ.2 0).length) {K108 : Mem → Nat → Int32 → Int32 → Option (Unit × Mem)} {Q : Unit → (Nat → Int32) → (Nat → Nat → Int32) → Prop} (hK : ∀ (M' : Mem) (T' : Nat → Int32), MAt M' F (va_up A 25 T') → (∀ u, t ≤ u → u ≤ (κ.2 0).length → TabR s (vN κ) T' am u) → RW M' (K108 M' 389 (nI am) (nI t + (-1))) Q) : ∀ (m a : Nat) (M : Mem) (T : Nat → Int32), MAt M F (va_up A 25 T) → a ≤ am + 1 → (∀ u, t + 1 ≤ u → u ≤ (κ.2 0).length → TabR s (vN κ) T am u) → (∀ b, b < a → ∃ o, FewC s (vN κ) t (8 - t) b o ∧ T (5001 * t + b) = nI (eO o)) → am + 1 - a < m → RW M (fn_X10_layPayouts_115 N K108 m M 389 (nI am) (nI t) (nI a)) Q := by
  have h8 := w.1.1
  intro m
  induction m with
  | zero => intro a M T _ _ _ _ h; omega
  | succ m ih =>
    intro a M T h ha hT hr hm
    rw [fn_X10_layPayouts_115.eq_2]
    have hc := nI_ltI (a := am) (b := a) (by omega) (by omega)
    by_cases c : am < a
    · rw [if_pos (hc.mpr c)]
      refine hK M T h (fun u h1 h2 => ?_)
      by_cases e : u = t
      · subst e
        intro b hb
        exact hr b (by omega)
      · exact hT u (by omega) h2
    · rw [if_neg (fun q => c (hc.mp q))]
      have hs800 := hs8 t (by omega)
      obtain ⟨o, o1, o2⟩ := rf_lp128 (N := N) h k w hs hs8 hst ham (show a ≤ am by omega) ht (hT (t + 1) (by omega) (by omega)) (K108 := K108) (K115 := fn_X10_layPayouts_115 N K108 m) N 0 1000000 FI.start (by omega) (by omega)
      have o2' : fn_X10_layPayouts_128 N K108 (fn_X10_layPayouts_115 N K108 m) N M 389 (nI am) (nI t) (nI a) 1000000 0 = _ := o2
      rw [o2']
      unfold fn_X10_layPayouts_186
      simp (disch := omega) only [MAt.ck h, MAt.i0 h, MAt.i2 h, MAt.i3 h, MAt.i4 h, MAt.i5 h, MAt.i6 h, MAt.i7 h, MAt.i8 h, MAt.i9 h, MAt.i15 h, MAt.i18 h, MAt.i21 h, MAt.i22 h, MAt.i23 h, MAt.i24 h, MAt.g1 h, MAt.n1 h, MAt.r1 h, MAt.l1 h, MAt.g10 h, MAt.n10 h, MAt.r10 h, MAt.l10 h, MAt.g11 h, MAt.n11 h, MAt.r11 h, MAt.l11 h, MAt.g12 h, MAt.n12 h, MAt.r12 h, MAt.l12 h, MAt.g13 h, MAt.n13 h, MAt.r13 h, MAt.l13 h, MAt.g14 h, MAt.n14 h, MAt.r14 h, MAt.l14 h, MAt.g16 h, MAt.n16 h, MAt.r16 h, MAt.l16 h, MAt.g17 h, MAt.n17 h, MAt.r17 h, MAt.l17 h, MAt.g19 h, MAt.n19 h, MAt.r19 h, MAt.l19 h, MAt.g20 h, MAt.n20 h, MAt.r20 h, MAt.l20 h, MAt.g25 h, MAt.n25 h, MAt.r25 h, MAt.l25 h, MAt.g26 h, MAt.n26 h, MAt.r26 h, MAt.l26 h, MAt.g27 h, MAt.n27 h, MAt.r27 h, MAt.l27 h, MAt.g28 h, MAt.n28 h, MAt.r28 h, MAt.l28 h, obs, b2s, lA, lB, lM, nI_add, pk_mul]
      refine RW.w25 h (by omega) fun M1 h1 => ?_
      rw [bx_uu, va25] at h1
      refine ih (a + 1) M1 _ h1 (by omega) (fun u h1 h2 b hb => ?_) (fun b hb => ?_) (by omega)
      · obtain ⟨o', p1, p2⟩ := hT u h1 h2 b hb
        exact ⟨o', p1, by rw [pk_un (by omega)]; exact p2⟩
      · by_cases e : b = a
        · subst e
          exact ⟨o, o1, pk_us⟩
        · obtain ⟨o', p1, p2⟩ := hr b (by omega)
          exact ⟨o', p1, by rw [pk_un (by omega)]; exact p2⟩
theorem rf_lp108 (hN : 2 ^ 15 ≤ N) (k : RelK (A 10) (A 12) (A 13) (A 14) κ) (w : WFK κ) (hs : SR s 0 8 ≤ 800) (hs8 : ∀ u, u < 8 → s u ≤ 800) (hst : ∀ u, u < 8 → A 26 u = nI (s u)) {am : Nat} (ham : am ≤ 5000) : ∀ (m j : Nat) (x : Int32) (M : Mem) (T : Nat → Int32), MAt M F (va_up A 25 T) → j ≤ (κ.2 0).length → (j = 0 ∧ x = -1 ∨ 0 < j ∧ x = nI (j - 1)) → (∀ u, j ≤ u → u ≤ (κ.2 0).length → TabR s (vN κ) T am u) → j < m → RW M (fn_X10_layPayouts_108 N m M 389 (nI am) x) (fun _ F' A' => F' = F ∧ ∃ T', A' = va_up A 25 T' ∧ ∀ u, u ≤ (κ.2 0).length → TabR s (vN κ) T' am u) := by
  have h8 := w.1.1
  intro m
  induction m with
  | zero => intro j x M T _ _ _ _ h; omega
  | succ m ih =>
    intro j x M T h hj hx hT hm
    rw [fn_X10_layPayouts_108.eq_2]
    rcases hx with ⟨rfl, rfl⟩ | ⟨j0, rfl⟩
    · rw [if_pos (by decide)]
      exact RW.ret h ⟨rfl, T, rfl, fun u hu => hT u (by omega) hu⟩
    · obtain ⟨t, rfl⟩ : ∃ t, j = t + 1 := ⟨j - 1, by omega⟩
      rw [show t + 1 - 1 = t by omega, if_neg (nI_pos (by omega))]
      have := rf_lp115 (N := N) (F := F) (A := A) hN k w hs hs8 hst ham (show t < (κ.2 0).length by omega) (K108 := fn_X10_layPayouts_108 N m) (Q := fun _ F' A' => F' = F ∧ ∃ T', A' = va_up A 25 T' ∧ ∀ u, u ≤ (κ.2 0).length → TabR s (vN κ) T' am u) (fun M' T' h' hT' => by
        refine ih t _ M' T' h' (by omega) ?_ hT' (by omega)
        by_cases h0 : t = 0
        · subst h0; exact Or.inl ⟨rfl, by decide⟩
        · exact Or.inr ⟨by omega, sb_m1 (by omega)⟩) N 0 M T h (by omega) hT (fun b hb => by omega) (by omega)
      rw [nI_0] at this
      exact this
theorem rf_lp71 (hN : 2 ^ 15 ≤ N) (k : RelK (A 10) (A 12) (A 13) (A 14) κ) (w : WFK κ) (hs : SR s 0 8 ≤ 800) (hs8 : ∀ u, u < 8 → s u ≤ 800) (hz : ∀ u, (κ.2 0).length ≤ u → s u = 0) (hst : ∀ u, u < 8 → A 26 u = nI (s u)) {am : Nat} (ham : am ≤ 5000) : ∀ (m a : Nat) (M : Mem) (T : Nat → Int32), MAt M F (va_up A 25 T) → a ≤ am + 1 → (∀ b, b < a → T (5001 * (κ.2 0).length + b) = nI (eO (if b = 0 then some 0 else none))) → am + 1 - a < m → RW M (fn_X10_layPayouts_71 N m M 389 (nI am) (nI (κ.2 0).length) (nI a)) (fun _ F' A' => F' = F ∧ ∃ T', A' = va_up A 25 T' ∧ ∀ u, u ≤ (κ.2 0).length → TabR s (vN κ) T' am u) := by
  have h8 := w.1.1
  intro m
  induction m with
  | zero => intro a M T _ _ _ h; omega
  | succ m ih =>
    intro a M T h ha hr hm
    rw [fn_X10_layPayouts_71.eq_2]
    have hc := nI_ltI (a := am) (b := a) (by omega) (by omega)
    by_cases c : am < a
    · rw [if_pos (hc.mpr c)]
      refine rf_lp108 (N := N) hN k w hs hs8 hst ham N (κ.2 0).length _ M T h (Nat.le_refl _) ?_ (fun u h1 h2 b hb => ?_) (by omega)
      · by_cases h0 : (κ.2 0).length = 0
        · exact Or.inl ⟨h0, by rw [h0]; decide⟩
        · exact Or.inr ⟨by omega, pk_sub (b := 1) (by omega)⟩
      · have e : u = (κ.2 0).length := by omega
        subst e
        exact ⟨_, FewC.nilz hz, hr b (by omega)⟩
    · rw [if_neg (fun q => c (hc.mp q))]
      simp (disch := omega) only [MAt.ck h, MAt.i0 h, MAt.i2 h, MAt.i3 h, MAt.i4 h, MAt.i5 h, MAt.i6 h, MAt.i7 h, MAt.i8 h, MAt.i9 h, MAt.i15 h, MAt.i18 h, MAt.i21 h, MAt.i22 h, MAt.i23 h, MAt.i24 h, MAt.g1 h, MAt.n1 h, MAt.r1 h, MAt.l1 h, MAt.g10 h, MAt.n10 h, MAt.r10 h, MAt.l10 h, MAt.g11 h, MAt.n11 h, MAt.r11 h, MAt.l11 h, MAt.g12 h, MAt.n12 h, MAt.r12 h, MAt.l12 h, MAt.g13 h, MAt.n13 h, MAt.r13 h, MAt.l13 h, MAt.g14 h, MAt.n14 h, MAt.r14 h, MAt.l14 h, MAt.g16 h, MAt.n16 h, MAt.r16 h, MAt.l16 h, MAt.g17 h, MAt.n17 h, MAt.r17 h, MAt.l17 h, MAt.g19 h, MAt.n19 h, MAt.r19 h, MAt.l19 h, MAt.g20 h, MAt.n20 h, MAt.r20 h, MAt.l20 h, MAt.g25 h, MAt.n25 h, MAt.r25 h, MAt.l25 h, MAt.g26 h, MAt.n26 h, MAt.r26 h, MAt.l26 h, MAt.g27 h, MAt.n27 h, MAt.r27 h, MAt.l27 h, MAt.g28 h, MAt.n28 h, MAt.r28 h, MAt.l28 h, obs, b2s, lA, lB, lM, nI_add, pk_mul]
      have e0 : (if nI a = 0 then fn_X10_layPayouts_97 N (fn_X10_layPayouts_71 N m) M 389 (nI am) (nI (κ.2 0).length) (nI a) 0 (nI (5001 * (κ.2 0).length + a)) 400 else fn_X10_layPayouts_97 N (fn_X10_layPayouts_71 N m) M 389 (nI am) (nI (κ.2 0).length) (nI a) 1000000 (nI (5001 * (κ.2 0).length + a)) 400) = fn_X10_layPayouts_97 N (fn_X10_layPayouts_71 N m) M 389 (nI am) (nI (κ.2 0).length) (nI a) (nI (eO (if a = 0 then some 0 else none))) (nI (5001 * (κ.2 0).length + a)) 400 := by
        have hq := nI_eq (a := a) (b := 0) (by omega) (by omega)
        rw [nI_0] at hq
        by_cases q : a = 0
        · rw [if_pos (hq.mpr q), if_pos q]; rfl
        · rw [if_neg (fun z => q (hq.mp z)), if_neg q]; rfl
      rw [e0]
      unfold fn_X10_layPayouts_97
      refine RW.w25 h (by omega) fun M1 h1 => ?_
      rw [bx_uu, va25] at h1
      rw [nI_1]
      refine ih (a + 1) M1 _ h1 (by omega) (fun b hb => ?_) (by omega)
      by_cases e : b = a
      · subst e; exact pk_us
      · rw [pk_un (by omega)]; exact hr b (by omega)
theorem rf_lp23 (hN : 2 ^ 15 ≤ N) (k : RelK (A 10) (A 12) (A 13) (A 14) κ) (hS : RelS (A 16) σ) (w : WFK κ) (ws : WFS κ σ) {am : Nat} (ham : am ≤ 5000) : ∀ (m b : Nat) (M : Mem) (H : Nat → Int32), MAt M F (va_up A 26 H) → b ≤ (κ.2 10).length → (∀ u, u < 8 → H u = nI (stN κ σ b u)) → (κ.2 10).length - b < m → RW M (fn_X10_layPayouts_23 N m M 389 (nI am) (nI b)) (fun _ F' A' => F' = F ∧ ∃ H' T', A' = va_up (va_up A 26 H') 25 T' ∧ (∀ u, u < 8 → H' u = nI (stA κ σ u)) ∧ ∀ u, u ≤ (κ.2 0).length → TabR (stA κ σ) (vN κ) T' am u) := by
  have h8 := w.1.1
  have hb8 := w.1.2.2.2.2.1
  have hl2 := ws.1
  obtain ⟨hz, hs, -, hs8⟩ := stA_fact w ws
  intro m
  induction m with
  | zero => intro b M H _ _ _ h; omega
  | succ m ih =>
    intro b M H h hb hH hm
    have k' : RelK (va_up A 26 H 10) (va_up A 26 H 12) (va_up A 26 H 13) (va_up A 26 H 14) κ := k
    have hS' : RelS (va_up A 26 H 16) σ := hS
    rw [fn_X10_layPayouts_23.eq_2]
    simp (disch := omega) only [MAt.ck h, MAt.i0 h, MAt.i2 h, MAt.i3 h, MAt.i4 h, MAt.i5 h, MAt.i6 h, MAt.i7 h, MAt.i8 h, MAt.i9 h, MAt.i15 h, MAt.i18 h, MAt.i21 h, MAt.i22 h, MAt.i23 h, MAt.i24 h, MAt.g1 h, MAt.n1 h, MAt.r1 h, MAt.l1 h, MAt.g10 h, MAt.n10 h, MAt.r10 h, MAt.l10 h, MAt.g11 h, MAt.n11 h, MAt.r11 h, MAt.l11 h, MAt.g12 h, MAt.n12 h, MAt.r12 h, MAt.l12 h, MAt.g13 h, MAt.n13 h, MAt.r13 h, MAt.l13 h, MAt.g14 h, MAt.n14 h, MAt.r14 h, MAt.l14 h, MAt.g16 h, MAt.n16 h, MAt.r16 h, MAt.l16 h, MAt.g17 h, MAt.n17 h, MAt.r17 h, MAt.l17 h, MAt.g19 h, MAt.n19 h, MAt.r19 h, MAt.l19 h, MAt.g20 h, MAt.n20 h, MAt.r20 h, MAt.l20 h, MAt.g25 h, MAt.n25 h, MAt.r25 h, MAt.l25 h, MAt.g26 h, MAt.n26 h, MAt.r26 h, MAt.l26 h, MAt.g27 h, MAt.n27 h, MAt.r27 h, MAt.l27 h, MAt.g28 h, MAt.n28 h, MAt.r28 h, MAt.l28 h, obs, b2s, lA, lB, lM, nI_add, pk_mul]
    rw [k'.1.2.2.1, k'.1.1]
    by_cases he : b = (κ.2 10).length
    · subst he
      rw [if_pos (Int32.le_refl _)]
      have e25 : va_up (va_up A 26 H) 25 (va_up A 26 H 25) = va_up A 26 H := by
        funext j
        unfold va_up
        split
        · rename_i e; rw [e]
        · rfl
      have := rf_lp71 (N := N) (F := F) (A := va_up A 26 H) (κ := κ) hN k' w hs hs8 hz hH ham N 0 M (va_up A 26 H 25) (by rw [e25]; exact h) (by omega) (fun q hq => by omega) (by omega)
      rw [nI_0] at this
      refine this.imp ?_
      rintro r F' A' ⟨rfl, T', rfl, hT⟩
      exact ⟨rfl, H, T', rfl, hH, hT⟩
    · rw [if_neg (nI_ge (by omega) (by omega))]
      obtain ⟨t, c, t1, t2, c1, d1, d2, d3, d4⟩ := bin_fact w ws (show b < (κ.2 10).length by omega)
      rw [(k'.2.2.2 b (by omega)).1, d1]
      simp (disch := omega) only [MAt.ck h, MAt.i0 h, MAt.i2 h, MAt.i3 h, MAt.i4 h, MAt.i5 h, MAt.i6 h, MAt.i7 h, MAt.i8 h, MAt.i9 h, MAt.i15 h, MAt.i18 h, MAt.i21 h, MAt.i22 h, MAt.i23 h, MAt.i24 h, MAt.g1 h, MAt.n1 h, MAt.r1 h, MAt.l1 h, MAt.g10 h, MAt.n10 h, MAt.r10 h, MAt.l10 h, MAt.g11 h, MAt.n11 h, MAt.r11 h, MAt.l11 h, MAt.g12 h, MAt.n12 h, MAt.r12 h, MAt.l12 h, MAt.g13 h, MAt.n13 h, MAt.r13 h, MAt.l13 h, MAt.g14 h, MAt.n14 h, MAt.r14 h, MAt.l14 h, MAt.g16 h, MAt.n16 h, MAt.r16 h, MAt.l16 h, MAt.g17 h, MAt.n17 h, MAt.r17 h, MAt.l17 h, MAt.g19 h, MAt.n19 h, MAt.r19 h, MAt.l19 h, MAt.g20 h, MAt.n20 h, MAt.r20 h, MAt.l20 h, MAt.g25 h, MAt.n25 h, MAt.r25 h, MAt.l25 h, MAt.g26 h, MAt.n26 h, MAt.r26 h, MAt.l26 h, MAt.g27 h, MAt.n27 h, MAt.r27 h, MAt.l27 h, MAt.g28 h, MAt.n28 h, MAt.r28 h, MAt.l28 h, obs, b2s, lA, lB, lM, nI_add, pk_mul]
      rw [hS'.2.2.2.1 b (by omega), d2, show va_up A 26 H 26 = H from by simp [va_up], hH t t2, nI_add]
      refine RW.w26 h t2 fun M1 h1 => ?_
      rw [bx_uu, show va_up A 26 H 26 = H from by simp [va_up]] at h1
      refine ih (b + 1) M1 _ h1 (by omega) (fun u hu => ?_) (by omega)
      rw [stN, d3, d4]
      by_cases eu : u = t
      · subst eu; rw [pk_us]; simp [va_up]
      · rw [pk_un eu, hH u hu]; simp [va_up, eu]
theorem rf_lp2 (hN : 2 ^ 15 ≤ N) (k : RelK (A 10) (A 12) (A 13) (A 14) κ) (hS : RelS (A 16) σ) (w : WFK κ) (ws : WFS κ σ) {am : Nat} (ham : am ≤ 5000) : ∀ (m b : Nat) (M : Mem) (H : Nat → Int32), MAt M F (va_up A 26 H) → b ≤ 8 → (∀ u, u < b → H u = 0) → 8 - b < m → RW M (fn_X10_layPayouts_2 N m M 389 (nI am) (nI b)) (fun _ F' A' => F' = F ∧ ∃ H' T', A' = va_up (va_up A 26 H') 25 T' ∧ (∀ u, u < 8 → H' u = nI (stA κ σ u)) ∧ ∀ u, u ≤ (κ.2 0).length → TabR (stA κ σ) (vN κ) T' am u) := by
  have hb8 := w.1.2.2.2.2.1
  intro m
  induction m with
  | zero => intro b M H _ _ _ h; omega
  | succ m ih =>
    intro b M H h hb hH hm
    rw [fn_X10_layPayouts_2.eq_2]
    by_cases he : b = 8
    · subst he
      rw [if_pos (show (8 : Int32) ≤ nI 8 from Int32.le_refl _)]
      have := rf_lp23 (N := N) (F := F) (A := A) hN k hS w ws ham N 0 M H h (by omega) (fun u hu => by rw [hH u hu]; rfl) (by omega)
      rw [nI_0] at this
      exact this
    · rw [if_neg (show ¬ (8 : Int32) ≤ nI b from nI_ge (b := 8) (by omega) (by omega))]
      simp (disch := omega) only [MAt.ck h, MAt.i0 h, MAt.i2 h, MAt.i3 h, MAt.i4 h, MAt.i5 h, MAt.i6 h, MAt.i7 h, MAt.i8 h, MAt.i9 h, MAt.i15 h, MAt.i18 h, MAt.i21 h, MAt.i22 h, MAt.i23 h, MAt.i24 h, MAt.g1 h, MAt.n1 h, MAt.r1 h, MAt.l1 h, MAt.g10 h, MAt.n10 h, MAt.r10 h, MAt.l10 h, MAt.g11 h, MAt.n11 h, MAt.r11 h, MAt.l11 h, MAt.g12 h, MAt.n12 h, MAt.r12 h, MAt.l12 h, MAt.g13 h, MAt.n13 h, MAt.r13 h, MAt.l13 h, MAt.g14 h, MAt.n14 h, MAt.r14 h, MAt.l14 h, MAt.g16 h, MAt.n16 h, MAt.r16 h, MAt.l16 h, MAt.g17 h, MAt.n17 h, MAt.r17 h, MAt.l17 h, MAt.g19 h, MAt.n19 h, MAt.r19 h, MAt.l19 h, MAt.g20 h, MAt.n20 h, MAt.r20 h, MAt.l20 h, MAt.g25 h, MAt.n25 h, MAt.r25 h, MAt.l25 h, MAt.g26 h, MAt.n26 h, MAt.r26 h, MAt.l26 h, MAt.g27 h, MAt.n27 h, MAt.r27 h, MAt.l27 h, MAt.g28 h, MAt.n28 h, MAt.r28 h, MAt.l28 h, obs, b2s, lA, lB, lM, nI_add, pk_mul]
      refine RW.w26 h (by omega) fun M1 h1 => ?_
      rw [bx_uu, show va_up A 26 H 26 = H from by simp [va_up]] at h1
      refine ih (b + 1) M1 _ h1 (by omega) (fun u hu => ?_) (by omega)
      by_cases e : u = b
      · subst e; exact pk_us
      · rw [pk_un e]; exact hH u (by omega)
theorem rf_layPayouts (hN : 2 ^ 15 ≤ N) (h : MAt M F A) (k : RelK (A 10) (A 12) (A 13) (A 14) κ) (hS : RelS (A 16) σ) (w : WFK κ) (ws : WFS κ σ) {am : Nat} (ham : am ≤ 5000) : RW M (fn_X10_layPayouts N M 389 (nI am)) (fun _ F' A' => F' = F ∧ ∃ H' T', A' = va_up (va_up A 26 H') 25 T' ∧ (∀ u, u < 8 → H' u = nI (stA κ σ u)) ∧ ∀ u, u ≤ (κ.2 0).length → TabR (stA κ σ) (vN κ) T' am u) := by
  unfold fn_X10_layPayouts
  have e26 : va_up A 26 (A 26) = A := by
    funext j
    unfold va_up
    split
    · rename_i e; rw [e]
    · rfl
  have := rf_lp2 (N := N) (F := F) (A := A) hN k hS w ws ham N 0 M (A 26) (by rw [e26]; exact h) (by omega) (fun u hu => by omega) (by omega)
  rw [nI_0] at this
  exact this
/-- the inner search of pays -/
theorem rf_py50 (h : MAt M F A) (k : RelK (A 10) (A 12) (A 13) (A 14) κ) (w : WFK κ) (hs : SR s 0 8 ≤ 800) {am t a c k0 : Nat} (ham : am ≤ 5000) (ha : a ≤ am) (ht : t < (κ.2 0).length) (hc : FewC s (vN κ) t ((7 - t) + 1) a (some c)) (hc8 : c ≤ 800) (hT0 : A 25 (5001 * t + a) = nI c) (hT : TabR s (vN κ) (A 25) am (t + 1)) (hk0 : ∃ c0, FewC s (vN κ) (t + 1) (7 - t) (a - k0 * vN κ t) (some c0) ∧ k0 + c0 = c) {K22 : Mem → Nat → Int32 → Int32 → Option (Int32 × Mem)} : ∀ (m j : Nat), j ≤ s t → j ≤ 800 → j * vN κ t ≤ a → k0 ≤ j → (∀ q c', j < q → q ≤ s t → q * vN κ t ≤ a → FewC s (vN κ) (t + 1) (7 - t) (a - q * vN κ t) (some c') → ¬ FewC s (vN κ) t ((7 - t) + 1) a (some (q + c'))) → j < m → ∃ j', j' ≤ s t ∧ j' ≤ 800 ∧ j' * vN κ t ≤ a ∧ (∃ c', FewC s (vN κ) (t + 1) (7 - t) (a - j' * vN κ t) (some c') ∧ FewC s (vN κ) t ((7 - t) + 1) a (some (j' + c'))) ∧ (∀ q c', j' < q → q ≤ s t → q * vN κ t ≤ a → FewC s (vN κ) (t + 1) (7 - t) (a - q * vN κ t) (some c') → ¬ FewC s (vN κ) t ((7 - t) + 1) a (some (q + c'))) ∧ fn_X10_pays_50 N K22 m M 389 (nI a) (nI t) (nI j) = (mm_sI M 402 0 (nI t) (nI j')).bind fun M8 => (mm_ck M8 389 10).bind fun _ => mm_b2 (fn_X10_coinValue N M8 389 (nI t)) fun v10 M9 => K22 M9 389 (nI a - nI j' * v10) (nI t + 1) := by
  have h8 := w.1.1
  have e7 : 8 - (t + 1) = 7 - t := by omega
  intro m
  induction m with
  | zero => intro j _ _ _ _ _ h; omega
  | succ m ih =>
    intro j j1 j2 j3 j4 j5 hm
    obtain ⟨o, o1, o2⟩ := hT (a - j * vN κ t) (by omega)
    obtain ⟨b1, -⟩ := few_bd hs (show t + 1 ≤ 8 by omega) o1
    rw [e7] at o1
    have step : fn_X10_pays_50 N K22 (m + 1) M 389 (nI a) (nI t) (nI j) = if nI (j + eO o) = nI c then (mm_sI M 402 0 (nI t) (nI j)).bind fun M8 => (mm_ck M8 389 10).bind fun _ => mm_b2 (fn_X10_coinValue N M8 389 (nI t)) fun v10 M9 => K22 M9 389 (nI a - nI j * v10) (nI t + 1) else fn_X10_pays_50 N K22 m M 389 (nI a) (nI t) (nI j + (-1)) := by
      rw [fn_X10_pays_50.eq_2, h.ck, obs, rf_cv h k w ht, b2s, h.ck, obs, pk_mul, pk_sub j3, nI_1, rf_fw h (by omega) (by omega), b2s, h.ck, obs, rf_fw h (by omega) (by omega), b2s, o2, hT0, nI_add, h.g27, obs]
    rw [step]
    have hq := nI_eq (a := j + eO o) (b := c) (by omega) (by omega)
    by_cases e : j + eO o = c
    · rw [if_pos (hq.mpr e)]
      cases o with
      | none =>
        have : j + 1000000 = c := e
        omega
      | some c' =>
        have e' : j + c' = c := e
        exact ⟨j, j1, j2, j3, ⟨c', o1, by rw [e']; exact hc⟩, j5, rfl⟩
    · rw [if_neg (fun z => e (hq.mp z))]
      have hne : j ≠ k0 := by
        intro q
        subst q
        obtain ⟨c0, p1, p2⟩ := hk0
        have := o1.uniq p1
        rw [this] at e
        exact e p2
      rw [sb_m1 (by omega)]
      have hmul : (j - 1) * vN κ t ≤ j * vN κ t := Nat.mul_le_mul_right _ (by omega)
      refine ih (j - 1) (by omega) (by omega) (by omega) (by omega) (fun q c' q1 q2 q3 q4 q5 => ?_) (by omega)
      by_cases eq : q = j
      · subst eq
        have u1 := o1.uniq q4
        have u2 := hc.uniq q5
        injection u2 with u2
        rw [u1] at e
        exact e u2.symm
      · exact j5 q c' (by omega) q2 q3 q4 q5
def nP (κ : Cf) (P : Nat → Int32) (u : Nat) : Nat := if u < (κ.2 0).length then (P u).toNatClampNeg else 0
theorem va27 {S : Nat → Int32} : va_up A 27 S 27 = S := by simp [va_up]
theorem rf_py22 (hN : 2 ^ 15 ≤ N) (k : RelK (A 10) (A 12) (A 13) (A 14) κ) (w : WFK κ) (hs : SR s 0 8 ≤ 800) (hs8 : ∀ u, u < 8 → s u ≤ 800) (hz : ∀ u, (κ.2 0).length ≤ u → s u = 0) (hst : ∀ u, u < 8 → A 26 u = nI (s u)) {am : Nat} (ham : am ≤ 5000) (hT : ∀ u, u ≤ (κ.2 0).length → TabR s (vN κ) (A 25) am u) : ∀ (m t a c : Nat) (M : Mem) (P : Nat → Int32), MAt M F (va_up A 27 P) → t ≤ (κ.2 0).length → a ≤ am → FewC s (vN κ) t (8 - t) a (some c) → (κ.2 0).length - t < m → RW M (fn_X10_pays_22 N m M 389 (nI a) (nI t)) (fun r F' A' => r = 1 ∧ F' = F ∧ ∃ P', A' = va_up A 27 P' ∧ (∀ u, u < t → P' u = P u) ∧ (∀ u, t ≤ u → u < (κ.2 0).length → P' u = nI (nP κ P' u) ∧ nP κ P' u ≤ 800) ∧ GrV s (vN κ) (nP κ P') t (8 - t) a) := by
  have h8 := w.1.1
  intro m
  induction m with
  | zero => intro t a c M P _ _ _ _ h; omega
  | succ m ih =>
    intro t a c M P h ht ha hc hm
    have k' : RelK (va_up A 27 P 10) (va_up A 27 P 12) (va_up A 27 P 13) (va_up A 27 P 14) κ := k
    rw [fn_X10_pays_22.eq_2]
    simp (disch := omega) only [MAt.ck h, MAt.i0 h, MAt.i2 h, MAt.i3 h, MAt.i4 h, MAt.i5 h, MAt.i6 h, MAt.i7 h, MAt.i8 h, MAt.i9 h, MAt.i15 h, MAt.i18 h, MAt.i21 h, MAt.i22 h, MAt.i23 h, MAt.i24 h, MAt.g1 h, MAt.n1 h, MAt.r1 h, MAt.l1 h, MAt.g10 h, MAt.n10 h, MAt.r10 h, MAt.l10 h, MAt.g11 h, MAt.n11 h, MAt.r11 h, MAt.l11 h, MAt.g12 h, MAt.n12 h, MAt.r12 h, MAt.l12 h, MAt.g13 h, MAt.n13 h, MAt.r13 h, MAt.l13 h, MAt.g14 h, MAt.n14 h, MAt.r14 h, MAt.l14 h, MAt.g16 h, MAt.n16 h, MAt.r16 h, MAt.l16 h, MAt.g17 h, MAt.n17 h, MAt.r17 h, MAt.l17 h, MAt.g19 h, MAt.n19 h, MAt.r19 h, MAt.l19 h, MAt.g20 h, MAt.n20 h, MAt.r20 h, MAt.l20 h, MAt.g25 h, MAt.n25 h, MAt.r25 h, MAt.l25 h, MAt.g26 h, MAt.n26 h, MAt.r26 h, MAt.l26 h, MAt.g27 h, MAt.n27 h, MAt.r27 h, MAt.l27 h, MAt.g28 h, MAt.n28 h, MAt.r28 h, MAt.l28 h, obs, b2s, lA, lB, lM, nI_add, pk_mul]
    rw [k'.1.1]
    by_cases he : t = (κ.2 0).length
    · subst he
      rw [if_pos (Int32.le_refl _)]
      have ha0 : a = 0 := by
        obtain ⟨⟨n, n1, -⟩, -⟩ := hc
        have := FewC.nilz (s := s) (v := vN κ) (t := (κ.2 0).length) (r := 8 - (κ.2 0).length) (a := a) hz
        by_cases e : a = 0
        · exact e
        · rw [if_neg e] at this
          exact absurd n1 (this n)
      subst ha0
      refine RW.ret h ⟨rfl, rfl, P, rfl, fun u _ => rfl, fun u h1 h2 => by omega, GrV.nilz _ _ hz (fun u hu => ?_)⟩
      unfold nP
      rw [if_neg (by omega)]
    · have htT : t < (κ.2 0).length := by omega
      have ht8 : t < 8 := by omega
      obtain ⟨v1, v2, -⟩ := vN_fact w htT
      have hs800 := hs8 t ht8
      have hst' : va_up A 27 P 26 t = nI (s t) := hst t ht8
      rw [if_neg (nI_ge (by omega) (by omega))]
      simp (disch := omega) only [MAt.ck h, MAt.i0 h, MAt.i2 h, MAt.i3 h, MAt.i4 h, MAt.i5 h, MAt.i6 h, MAt.i7 h, MAt.i8 h, MAt.i9 h, MAt.i15 h, MAt.i18 h, MAt.i21 h, MAt.i22 h, MAt.i23 h, MAt.i24 h, MAt.g1 h, MAt.n1 h, MAt.r1 h, MAt.l1 h, MAt.g10 h, MAt.n10 h, MAt.r10 h, MAt.l10 h, MAt.g11 h, MAt.n11 h, MAt.r11 h, MAt.l11 h, MAt.g12 h, MAt.n12 h, MAt.r12 h, MAt.l12 h, MAt.g13 h, MAt.n13 h, MAt.r13 h, MAt.l13 h, MAt.g14 h, MAt.n14 h, MAt.r14 h, MAt.l14 h, MAt.g16 h, MAt.n16 h, MAt.r16 h, MAt.l16 h, MAt.g17 h, MAt.n17 h, MAt.r17 h, MAt.l17 h, MAt.g19 h, MAt.n19 h, MAt.r19 h, MAt.l19 h, MAt.g20 h, MAt.n20 h, MAt.r20 h, MAt.l20 h, MAt.g25 h, MAt.n25 h, MAt.r25 h, MAt.l25 h, MAt.g26 h, MAt.n26 h, MAt.r26 h, MAt.l26 h, MAt.g27 h, MAt.n27 h, MAt.r27 h, MAt.l27 h, MAt.g28 h, MAt.n28 h, MAt.r28 h, MAt.l28 h, obs, b2s, lA, lB, lM, nI_add, pk_mul]
      rw [hst', rf_cv h k' w htT, b2s]
      unfold mm_dI
      rw [if_neg (nI_ne0 (by omega) (by omega)), obs, pk_div (by omega) (by omega) (by omega)]
      have hdle : a / vN κ t ≤ a := Nat.div_le_self _ _
      have hmin : (if nI (a / vN κ t) < nI (s t) then nI (a / vN κ t) else nI (s t)) = nI (min (a / vN κ t) (s t)) := by
        have hcc := nI_ltI (a := a / vN κ t) (b := s t) (by omega) (by omega)
        by_cases q : a / vN κ t < s t
        · rw [if_pos (hcc.mpr q)]; congr 1; omega
        · rw [if_neg (fun z => q (hcc.mp z))]; congr 1; omega
      rw [hmin]
      simp only [mm_lt]
      have e8 : 8 - t = (7 - t) + 1 := by omega
      have hbd := (few_bd hs (show t ≤ 8 by omega) hc).2 c rfl
      obtain ⟨ot, ot1, ot2⟩ := hT t ht a ha
      have := ot1.uniq hc
      subst this
      rw [e8] at hc
      obtain ⟨⟨n0, n1, n2⟩, n3⟩ := hc
      obtain ⟨p1, p2, p3⟩ := pay_cons n1
      have hmd : min (a / vN κ t) (s t) * vN κ t ≤ a := Nat.le_trans (Nat.mul_le_mul_right _ (Nat.min_le_left _ _)) (Nat.div_mul_le_self _ _)
      have hk0 : n0 t ≤ min (a / vN κ t) (s t) := Nat.le_min.mpr ⟨(Nat.le_div_iff_mul_le (by omega)).mpr p2, p1⟩
      obtain ⟨j', j1, j2, j3, j4, j5, j6⟩ := rf_py50 (N := N) h k' w hs (am := am) (t := t) (a := a) (c := c) (k0 := n0 t) ham ha htT ⟨⟨n0, n1, n2⟩, n3⟩ hbd ot2 (hT (t + 1) (by omega)) ⟨SR n0 (t + 1) (7 - t), ⟨⟨n0, p3, rfl⟩, fun q hq => by
        obtain ⟨z1, z2⟩ := pay_mk p1 p2 hq
        have := n3 _ z1
        have e9 : SR n0 t ((7 - t) + 1) = n0 t + SR n0 (t + 1) (7 - t) := rfl
        omega⟩, by rw [← n2]; rfl⟩ (K22 := fn_X10_pays_22 N m) N (min (a / vN κ t) (s t)) (Nat.min_le_right _ _) (by omega) hmd hk0 (fun q c' q1 q2 q3 => by
          have : q ≤ a / vN κ t := (Nat.le_div_iff_mul_le (by omega)).mpr q3
          omega) (by omega)
      rw [j6]
      refine RW.w27 h ht8 fun M1 h1 => ?_
      rw [bx_uu, va27] at h1
      have k1 : RelK (va_up A 27 (upd P t (nI j')) 10) (va_up A 27 (upd P t (nI j')) 12) (va_up A 27 (upd P t (nI j')) 13) (va_up A 27 (upd P t (nI j')) 14) κ := k
      rw [h1.ck, obs, rf_cv h1 k1 w htT, b2s, pk_mul, pk_sub j3, nI_1]
      obtain ⟨c', c1, c2⟩ := j4
      refine (ih (t + 1) (a - j' * vN κ t) c' M1 _ h1 (by omega) (by omega) (by rw [show 8 - (t + 1) = 7 - t by omega]; exact c1) (by omega)).imp ?_
      rintro r F' A' ⟨r1, r2, P', r3, r4, r5, r6⟩
      have hPt : P' t = nI j' := by rw [r4 t (by omega), pk_us]
      have hnt : nP κ P' t = j' := by unfold nP; rw [if_pos htT, hPt, nI_clamp (by omega)]
      refine ⟨r1, r2, P', r3, fun u hu => by rw [r4 u (by omega), pk_un (by omega)], fun u h1 h2 => ?_, ?_⟩
      · by_cases e : u = t
        · subst e; rw [hnt]; exact ⟨hPt, j2⟩
        · exact r5 u (by omega) h2
      · rw [e8, GrV, hnt]
        rw [show 8 - (t + 1) = 7 - t by omega] at r6
        exact ⟨j1, j3, ⟨c', c1, c2⟩, j5, r6⟩
/-- pays: what may be paid, and how much of each type -/
theorem rf_pays (hN : 2 ^ 15 ≤ N) (h : MAt M F A) (k : RelK (A 10) (A 12) (A 13) (A 14) κ) (hS : RelS (A 16) σ) (w : WFK κ) (ws : WFS κ σ) {am : Nat} (ham : am ≤ 5000) : RW M (fn_X10_pays N M 389 (nI am)) (fun r F' A' => F' = F ∧ Qt F A F' A' ∧ ((r = 0 ∧ ∀ n, ¬ PayV (stA κ σ) (vN κ) n 0 8 am) ∨ (r = 1 ∧ GrV (stA κ σ) (vN κ) (nP κ (A' 27)) 0 8 am ∧ A' 25 am = nI (SR (nP κ (A' 27)) 0 8) ∧ ∀ u, u < (κ.2 0).length → A' 27 u = nI (nP κ (A' 27) u) ∧ nP κ (A' 27) u ≤ 800))) := by
  have h8 := w.1.1
  obtain ⟨hz, hs, -, hs8⟩ := stA_fact w ws
  unfold fn_X10_pays
  rw [h.ck, obs]
  refine RW.call (rf_layPayouts hN h k hS w ws ham) ?_
  rintro r M1 F1 A1 h1 ⟨rfl, H, T, rfl, hH, hT⟩
  have hfw := rf_fw (N := N) h1 (t := 0) (a := am) (by omega) ham
  rw [nI_0] at hfw
  rw [h1.ck, obs, hfw, b2s, va25]
  obtain ⟨o, o1, o2⟩ := hT 0 (by omega) am (Nat.le_refl _)
  obtain ⟨b1, b2⟩ := few_bd hs (show 0 ≤ 8 by omega) o1
  rw [o2]
  have hq := lGt (m := 1000000) (n := eO o) (by decide) (by omega)
  cases o with
  | none =>
    rw [if_neg (fun z => by have := hq.mp z; have : 1000000 < 1000000 := this; omega)]
    exact RW.ret h1 ⟨rfl, Qt.rf, Or.inl ⟨rfl, o1⟩⟩
  | some c =>
    have hc8 := b2 c rfl
    rw [if_pos (hq.mpr (show c < 1000000 by omega))]
    have e27 : va_up (va_up (va_up A 26 H) 25 T) 27 (va_up (va_up A 26 H) 25 T 27) = va_up (va_up A 26 H) 25 T := by
      funext j
      unfold va_up
      split
      · rename_i e; rw [e]
      · rfl
    have := rf_py22 (N := N) (F := F1) (A := va_up (va_up A 26 H) 25 T) (κ := κ) hN k w hs hs8 hz hH ham hT N 0 am c M1 (va_up (va_up A 26 H) 25 T 27) (by rw [e27]; exact h1) (by omega) (Nat.le_refl _) o1 (by omega)
    rw [nI_0] at this
    refine this.imp ?_
    rintro r' F' A' ⟨rfl, rfl, P', rfl, -, r5, r6⟩
    refine ⟨rfl, Qt.rf, Or.inr ⟨rfl, ?_⟩⟩
    rw [va27]
    refine ⟨r6, ?_, fun u hu => r5 u (by omega) hu⟩
    have e1 : c = SR (nP κ P') 0 8 := by
      have := o1.uniq (r6.pay).2
      injection this
    show T am = _
    rw [← e1]
    rw [Nat.mul_zero, Nat.zero_add] at o2
    exact o2
end RY
