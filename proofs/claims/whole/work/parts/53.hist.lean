/-! PURE: changes of the reference's state array; its history -/
theorem RelS.hop {s s' : Nat → Int32} {σ : St} {l : List Int32} (h : RelS s σ) (e : ∀ k, k < 412 → ¬ (k = 3 ∨ 82 ≤ k ∧ k < 202) → s' k = s k) (h3 : s' 3 = nI l.length) (hl : l.length ≤ 60) (hv : ∀ i, i < l.length → s' (82 + 2 * i) = l.getD i 0 / 10000 ∧ s' (82 + 2 * i + 1) = l.getD i 0 - l.getD i 0 / 10000 * 10000) : RelS s' (σ.1, va_up σ.2 0 l) := by
  obtain ⟨⟨⟨a1, a2, a3, a4, a5⟩, a6, a7, a8, a9, a10⟩, ⟨c1, c2, c3, c4, c5, c6, c7, c8, c9, c10⟩, b1, b2, b3, b4, b5, b6, b7⟩ := h
  exact ⟨⟨⟨by rw [e _ (by omega) (by omega)]; exact a1, by rw [e _ (by omega) (by omega)]; exact a2, by rw [e _ (by omega) (by omega)]; exact a3, by rw [e _ (by omega) (by omega)]; exact a4, by rw [e _ (by omega) (by omega)]; exact a5⟩, h3, by rw [e _ (by omega) (by omega)]; exact a7, by rw [e _ (by omega) (by omega)]; exact a8, by rw [e _ (by omega) (by omega)]; exact a9, by rw [e _ (by omega) (by omega)]; exact a10⟩, ⟨hl, c2, c3, c4, c5, c6, c7, c8, c9, c10⟩, fun i hi => by rw [e _ (by omega) (by omega)]; exact b1 i hi, fun i hi => by have hi' : i < (σ.2 2).length := hi; rw [e _ (by omega) (by omega)]; exact b2 i hi, fun i hi => by have hi' : i < (σ.2 1).length := hi; rw [e _ (by omega) (by omega)]; exact b3 i hi, fun i hi => by have hi' : i < (σ.2 4).length := hi; rw [e _ (by omega) (by omega)]; exact b4 i hi, hv, fun i hi => by have hi' : i < (σ.2 5).length := hi; rw [e _ (by omega) (by omega), e _ (by omega) (by omega), e _ (by omega) (by omega)]; exact b6 i hi, fun i hi => by have hi' : i < (σ.2 8).length := hi; rw [e _ (by omega) (by omega), e _ (by omega) (by omega), e _ (by omega) (by omega)]; exact b7 i hi⟩
theorem RelS.lop {s s' : Nat → Int32} {σ : St} {l : List Int32} (h : RelS s σ) (e : ∀ k, k < 412 → ¬ (k = 4 ∨ 22 ≤ k ∧ k < 42) → s' k = s k) (h3 : s' 4 = nI l.length) (hl : l.length ≤ 20) (hv : ∀ i, i < l.length → s' (22 + i) = l.getD i 0) : RelS s' (σ.1, va_up σ.2 1 l) := by
  obtain ⟨⟨⟨a1, a2, a3, a4, a5⟩, a6, a7, a8, a9, a10⟩, ⟨c1, c2, c3, c4, c5, c6, c7, c8, c9, c10⟩, b1, b2, b3, b4, b5, b6, b7⟩ := h
  exact ⟨⟨⟨by rw [e _ (by omega) (by omega)]; exact a1, by rw [e _ (by omega) (by omega)]; exact a2, by rw [e _ (by omega) (by omega)]; exact a3, by rw [e _ (by omega) (by omega)]; exact a4, by rw [e _ (by omega) (by omega)]; exact a5⟩, by rw [e _ (by omega) (by omega)]; exact a6, h3, by rw [e _ (by omega) (by omega)]; exact a8, by rw [e _ (by omega) (by omega)]; exact a9, by rw [e _ (by omega) (by omega)]; exact a10⟩, ⟨c1, hl, c3, c4, c5, c6, c7, c8, c9, c10⟩, fun i hi => by rw [e _ (by omega) (by omega)]; exact b1 i hi, fun i hi => by have hi' : i < (σ.2 2).length := hi; rw [e _ (by omega) (by omega)]; exact b2 i hi, hv, fun i hi => by have hi' : i < (σ.2 4).length := hi; rw [e _ (by omega) (by omega)]; exact b4 i hi, fun i hi => by have hi' : i < (σ.2 0).length := hi; rw [e _ (by omega) (by omega), e _ (by omega) (by omega)]; exact b5 i hi, fun i hi => by have hi' : i < (σ.2 5).length := hi; rw [e _ (by omega) (by omega), e _ (by omega) (by omega), e _ (by omega) (by omega)]; exact b6 i hi, fun i hi => by have hi' : i < (σ.2 8).length := hi; rw [e _ (by omega) (by omega), e _ (by omega) (by omega), e _ (by omega) (by omega)]; exact b7 i hi⟩
theorem RelS.bin {s s' : Nat → Int32} {σ : St} {l : List Int32} (h : RelS s σ) (e : ∀ k, k < 412 → ¬ (14 ≤ k ∧ k < 22) → s' k = s k) (hl : l.length ≤ 8) (hv : ∀ i, i < l.length → s' (14 + i) = l.getD i 0) : RelS s' (σ.1, va_up σ.2 2 l) := by
  obtain ⟨⟨⟨a1, a2, a3, a4, a5⟩, a6, a7, a8, a9, a10⟩, ⟨c1, c2, c3, c4, c5, c6, c7, c8, c9, c10⟩, b1, b2, b3, b4, b5, b6, b7⟩ := h
  exact ⟨⟨⟨by rw [e _ (by omega) (by omega)]; exact a1, by rw [e _ (by omega) (by omega)]; exact a2, by rw [e _ (by omega) (by omega)]; exact a3, by rw [e _ (by omega) (by omega)]; exact a4, by rw [e _ (by omega) (by omega)]; exact a5⟩, by rw [e _ (by omega) (by omega)]; exact a6, by rw [e _ (by omega) (by omega)]; exact a7, by rw [e _ (by omega) (by omega)]; exact a8, by rw [e _ (by omega) (by omega)]; exact a9, by rw [e _ (by omega) (by omega)]; exact a10⟩, ⟨c1, c2, hl, c4, c5, c6, c7, c8, c9, c10⟩, fun i hi => by rw [e _ (by omega) (by omega)]; exact b1 i hi, hv, fun i hi => by have hi' : i < (σ.2 1).length := hi; rw [e _ (by omega) (by omega)]; exact b3 i hi, fun i hi => by have hi' : i < (σ.2 4).length := hi; rw [e _ (by omega) (by omega)]; exact b4 i hi, fun i hi => by have hi' : i < (σ.2 0).length := hi; rw [e _ (by omega) (by omega), e _ (by omega) (by omega)]; exact b5 i hi, fun i hi => by have hi' : i < (σ.2 5).length := hi; rw [e _ (by omega) (by omega), e _ (by omega) (by omega), e _ (by omega) (by omega)]; exact b6 i hi, fun i hi => by have hi' : i < (σ.2 8).length := hi; rw [e _ (by omega) (by omega), e _ (by omega) (by omega), e _ (by omega) (by omega)]; exact b7 i hi⟩
theorem RelS.rej {s s' : Nat → Int32} {σ : St} {l : List Int32} (h : RelS s σ) (e : ∀ k, k < 412 → ¬ (10 ≤ k ∧ k < 14) → s' k = s k) (hl : l.length = 4) (hv : ∀ i, i < 4 → s' (10 + i) = l.getD i 0) : RelS s' (σ.1, va_up σ.2 3 l) := by
  obtain ⟨⟨⟨a1, a2, a3, a4, a5⟩, a6, a7, a8, a9, a10⟩, ⟨c1, c2, c3, c4, c5, c6, c7, c8, c9, c10⟩, b1, b2, b3, b4, b5, b6, b7⟩ := h
  exact ⟨⟨⟨by rw [e _ (by omega) (by omega)]; exact a1, by rw [e _ (by omega) (by omega)]; exact a2, by rw [e _ (by omega) (by omega)]; exact a3, by rw [e _ (by omega) (by omega)]; exact a4, by rw [e _ (by omega) (by omega)]; exact a5⟩, by rw [e _ (by omega) (by omega)]; exact a6, by rw [e _ (by omega) (by omega)]; exact a7, by rw [e _ (by omega) (by omega)]; exact a8, by rw [e _ (by omega) (by omega)]; exact a9, by rw [e _ (by omega) (by omega)]; exact a10⟩, ⟨c1, c2, c3, hl, c5, c6, c7, c8, c9, c10⟩, hv, fun i hi => by have hi' : i < (σ.2 2).length := hi; rw [e _ (by omega) (by omega)]; exact b2 i hi, fun i hi => by have hi' : i < (σ.2 1).length := hi; rw [e _ (by omega) (by omega)]; exact b3 i hi, fun i hi => by have hi' : i < (σ.2 4).length := hi; rw [e _ (by omega) (by omega)]; exact b4 i hi, fun i hi => by have hi' : i < (σ.2 0).length := hi; rw [e _ (by omega) (by omega), e _ (by omega) (by omega)]; exact b5 i hi, fun i hi => by have hi' : i < (σ.2 5).length := hi; rw [e _ (by omega) (by omega), e _ (by omega) (by omega), e _ (by omega) (by omega)]; exact b6 i hi, fun i hi => by have hi' : i < (σ.2 8).length := hi; rw [e _ (by omega) (by omega), e _ (by omega) (by omega), e _ (by omega) (by omega)]; exact b7 i hi⟩
theorem RelS.rec {s s' : Nat → Int32} {σ : St} {l : List Int32} (h : RelS s σ) (e : ∀ k, k < 412 → ¬ (k = 7 ∨ 42 ≤ k ∧ k < 82) → s' k = s k) (h3 : s' 7 = nI l.length) (hl : l.length ≤ 40) (hv : ∀ i, i < l.length → s' (42 + i) = l.getD i 0) : RelS s' (σ.1, va_up σ.2 4 l) := by
  obtain ⟨⟨⟨a1, a2, a3, a4, a5⟩, a6, a7, a8, a9, a10⟩, ⟨c1, c2, c3, c4, c5, c6, c7, c8, c9, c10⟩, b1, b2, b3, b4, b5, b6, b7⟩ := h
  exact ⟨⟨⟨by rw [e _ (by omega) (by omega)]; exact a1, by rw [e _ (by omega) (by omega)]; exact a2, by rw [e _ (by omega) (by omega)]; exact a3, by rw [e _ (by omega) (by omega)]; exact a4, by rw [e _ (by omega) (by omega)]; exact a5⟩, by rw [e _ (by omega) (by omega)]; exact a6, by rw [e _ (by omega) (by omega)]; exact a7, h3, by rw [e _ (by omega) (by omega)]; exact a9, by rw [e _ (by omega) (by omega)]; exact a10⟩, ⟨c1, c2, c3, c4, hl, c6, c7, c8, c9, c10⟩, fun i hi => by rw [e _ (by omega) (by omega)]; exact b1 i hi, fun i hi => by have hi' : i < (σ.2 2).length := hi; rw [e _ (by omega) (by omega)]; exact b2 i hi, fun i hi => by have hi' : i < (σ.2 1).length := hi; rw [e _ (by omega) (by omega)]; exact b3 i hi, hv, fun i hi => by have hi' : i < (σ.2 0).length := hi; rw [e _ (by omega) (by omega), e _ (by omega) (by omega)]; exact b5 i hi, fun i hi => by have hi' : i < (σ.2 5).length := hi; rw [e _ (by omega) (by omega), e _ (by omega) (by omega), e _ (by omega) (by omega)]; exact b6 i hi, fun i hi => by have hi' : i < (σ.2 8).length := hi; rw [e _ (by omega) (by omega), e _ (by omega) (by omega), e _ (by omega) (by omega)]; exact b7 i hi⟩
theorem RelS.bag {s s' : Nat → Int32} {σ : St} {l l2 l3 : List Int32} (h : RelS s σ) (e : ∀ k, k < 412 → ¬ (k = 8 ∨ 202 ≤ k ∧ k < 292) → s' k = s k) (h3 : s' 8 = nI l.length) (hl : l.length ≤ 30) (hl2 : l2.length = l.length) (hl3 : l3.length = l.length) (hv : ∀ i, i < l.length → s' (202 + i) = l.getD i 0 ∧ s' (232 + i) = l2.getD i 0 ∧ s' (262 + i) = l3.getD i 0 + 1) : RelS s' (σ.1, va_up (va_up (va_up σ.2 5 l) 6 l2) 7 l3) := by
  obtain ⟨⟨⟨a1, a2, a3, a4, a5⟩, a6, a7, a8, a9, a10⟩, ⟨c1, c2, c3, c4, c5, c6, c7, c8, c9, c10⟩, b1, b2, b3, b4, b5, b6, b7⟩ := h
  exact ⟨⟨⟨by rw [e _ (by omega) (by omega)]; exact a1, by rw [e _ (by omega) (by omega)]; exact a2, by rw [e _ (by omega) (by omega)]; exact a3, by rw [e _ (by omega) (by omega)]; exact a4, by rw [e _ (by omega) (by omega)]; exact a5⟩, by rw [e _ (by omega) (by omega)]; exact a6, by rw [e _ (by omega) (by omega)]; exact a7, by rw [e _ (by omega) (by omega)]; exact a8, h3, by rw [e _ (by omega) (by omega)]; exact a10⟩, ⟨c1, c2, c3, c4, c5, hl, hl2, hl3, c9, c10⟩, fun i hi => by rw [e _ (by omega) (by omega)]; exact b1 i hi, fun i hi => by have hi' : i < (σ.2 2).length := hi; rw [e _ (by omega) (by omega)]; exact b2 i hi, fun i hi => by have hi' : i < (σ.2 1).length := hi; rw [e _ (by omega) (by omega)]; exact b3 i hi, fun i hi => by have hi' : i < (σ.2 4).length := hi; rw [e _ (by omega) (by omega)]; exact b4 i hi, fun i hi => by have hi' : i < (σ.2 0).length := hi; rw [e _ (by omega) (by omega), e _ (by omega) (by omega)]; exact b5 i hi, hv, fun i hi => by have hi' : i < (σ.2 8).length := hi; rw [e _ (by omega) (by omega), e _ (by omega) (by omega), e _ (by omega) (by omega)]; exact b7 i hi⟩
theorem RelS.smp {s s' : Nat → Int32} {σ : St} {l l2 : List Int32} (h : RelS s σ) (e : ∀ k, k < 412 → ¬ (k = 9 ∨ 292 ≤ k ∧ k < 412) → s' k = s k) (h3 : s' 9 = nI l.length) (hl : l.length ≤ 40) (hl2 : l2.length = l.length) (hv : ∀ i, i < l.length → s' (292 + 3 * i) = l.getD i 0 / 10000 ∧ s' (292 + 3 * i + 1) = l.getD i 0 - l.getD i 0 / 10000 * 10000 ∧ s' (292 + 3 * i + 2) = l2.getD i 0) : RelS s' (σ.1, va_up (va_up σ.2 8 l) 9 l2) := by
  obtain ⟨⟨⟨a1, a2, a3, a4, a5⟩, a6, a7, a8, a9, a10⟩, ⟨c1, c2, c3, c4, c5, c6, c7, c8, c9, c10⟩, b1, b2, b3, b4, b5, b6, b7⟩ := h
  exact ⟨⟨⟨by rw [e _ (by omega) (by omega)]; exact a1, by rw [e _ (by omega) (by omega)]; exact a2, by rw [e _ (by omega) (by omega)]; exact a3, by rw [e _ (by omega) (by omega)]; exact a4, by rw [e _ (by omega) (by omega)]; exact a5⟩, by rw [e _ (by omega) (by omega)]; exact a6, by rw [e _ (by omega) (by omega)]; exact a7, by rw [e _ (by omega) (by omega)]; exact a8, by rw [e _ (by omega) (by omega)]; exact a9, h3⟩, ⟨c1, c2, c3, c4, c5, c6, c7, c8, hl, hl2⟩, fun i hi => by rw [e _ (by omega) (by omega)]; exact b1 i hi, fun i hi => by have hi' : i < (σ.2 2).length := hi; rw [e _ (by omega) (by omega)]; exact b2 i hi, fun i hi => by have hi' : i < (σ.2 1).length := hi; rw [e _ (by omega) (by omega)]; exact b3 i hi, fun i hi => by have hi' : i < (σ.2 4).length := hi; rw [e _ (by omega) (by omega)]; exact b4 i hi, fun i hi => by have hi' : i < (σ.2 0).length := hi; rw [e _ (by omega) (by omega), e _ (by omega) (by omega)]; exact b5 i hi, fun i hi => by have hi' : i < (σ.2 5).length := hi; rw [e _ (by omega) (by omega), e _ (by omega) (by omega), e _ (by omega) (by omega)]; exact b6 i hi, hv⟩
theorem RelS.nums {s s' : Nat → Int32} {σ : St} {g : Nat → Int32} (h : RelS s σ) (e : ∀ k, k < 412 → ¬ (k = 0 ∨ k = 1 ∨ k = 2 ∨ k = 5 ∨ k = 6) → s' k = s k) (h0 : s' 0 = g 0) (h1 : s' 1 = g 1) (h2 : s' 2 = g 2) (h5 : s' 5 = g 3) (h6 : s' 6 = g 4) : RelS s' (g, σ.2) := by
  obtain ⟨⟨⟨a1, a2, a3, a4, a5⟩, a6, a7, a8, a9, a10⟩, ⟨c1, c2, c3, c4, c5, c6, c7, c8, c9, c10⟩, b1, b2, b3, b4, b5, b6, b7⟩ := h
  exact ⟨⟨⟨h0, h1, h2, h5, h6⟩, by rw [e _ (by omega) (by omega)]; exact a6, by rw [e _ (by omega) (by omega)]; exact a7, by rw [e _ (by omega) (by omega)]; exact a8, by rw [e _ (by omega) (by omega)]; exact a9, by rw [e _ (by omega) (by omega)]; exact a10⟩, ⟨c1, c2, c3, c4, c5, c6, c7, c8, c9, c10⟩, fun i hi => by rw [e _ (by omega) (by omega)]; exact b1 i hi, fun i hi => by have hi' : i < (σ.2 2).length := hi; rw [e _ (by omega) (by omega)]; exact b2 i hi, fun i hi => by have hi' : i < (σ.2 1).length := hi; rw [e _ (by omega) (by omega)]; exact b3 i hi, fun i hi => by have hi' : i < (σ.2 4).length := hi; rw [e _ (by omega) (by omega)]; exact b4 i hi, fun i hi => by have hi' : i < (σ.2 0).length := hi; rw [e _ (by omega) (by omega), e _ (by omega) (by omega)]; exact b5 i hi, fun i hi => by have hi' : i < (σ.2 5).length := hi; rw [e _ (by omega) (by omega), e _ (by omega) (by omega), e _ (by omega) (by omega)]; exact b6 i hi, fun i hi => by have hi' : i < (σ.2 8).length := hi; rw [e _ (by omega) (by omega), e _ (by omega) (by omega), e _ (by omega) (by omega)]; exact b7 i hi⟩
def RelU (d : Int32) (H : Nat → Int32) (U : List St) : Prop := d = nI U.length ∧ U.length ≤ 12 ∧ ∀ i, i < U.length → ∃ u, U[i]? = some u ∧ RelS (fun k => H (412 * (U.length - 1 - i) + k)) u
theorem Rel.chg {F F' : Nat → Int32} {A A' : Nat → Nat → Int32} {bf : List Int32} {κ : Cf} {σ σ' : St} {U U' : List St} {sn : Nat → Option St} (k : Rel F A bf κ σ U sn) (h2 : F' 2 = F 2) (hu : RelU (F' 18) (A' 17) U') (hs : RelS (A' 16) σ') (e1 : A' 1 = A 1) (e10 : A' 10 = A 10) (e12 : A' 12 = A 12) (e13 : A' 13 = A 13) (e14 : A' 14 = A 14) (e19 : A' 19 = A 19) (e20 : A' 20 = A 20) : Rel F' A' bf κ σ' U' sn := by
  obtain ⟨k1, k2, k3, k4, k5⟩ := k
  unfold Rel
  rw [h2, e1, e10, e12, e13, e14, e19, e20]
  exact ⟨k1, k2, hs, hu, k5⟩
section RK
variable {N : Nat} {bf : List Int32} {κ : Cf} {σ : St} {U : List St} {sn : Nat → Option St}
theorem rf_kp1 (d : Nat) (hd : d < 12) : ∀ (m i : Nat) (M : Mem) (F : Nat → Int32) (A : Nat → Nat → Int32), MAt M F A → F 18 = nI d → i ≤ 412 → 412 - i < m → RW M (fn_X10_keep_58 N m M 389 (nI i)) (fun _ F' A' => F' = upd F 18 (nI (d + 1)) ∧ ∃ H, A' = va_up A 17 H ∧ (∀ q, q < 412 → i ≤ q → H (412 * d + q) = A 16 q) ∧ ∀ q, q < 412 * d + i → H q = A 17 q) := by
  intro m
  induction m with
  | zero => intro i M F A _ _ _ h; omega
  | succ m ih =>
    intro i M F A h h18 hi hm
    rw [fn_X10_keep_58.eq_2]
    have hc := lLe (m := 412) (n := i) (by decide) (by omega)
    by_cases he : 412 ≤ i
    · rw [if_pos (hc.mpr he)]
      simp (disch := omega) only [MAt.ck h, MAt.i0 h, MAt.i2 h, MAt.i3 h, MAt.i4 h, MAt.i5 h, MAt.i6 h, MAt.i7 h, MAt.i8 h, MAt.i9 h, MAt.i15 h, MAt.i18 h, MAt.i21 h, MAt.i22 h, MAt.i23 h, MAt.i24 h, MAt.g1 h, MAt.n1 h, MAt.r1 h, MAt.l1 h, MAt.g10 h, MAt.n10 h, MAt.r10 h, MAt.l10 h, MAt.g11 h, MAt.n11 h, MAt.r11 h, MAt.l11 h, MAt.g12 h, MAt.n12 h, MAt.r12 h, MAt.l12 h, MAt.g13 h, MAt.n13 h, MAt.r13 h, MAt.l13 h, MAt.g14 h, MAt.n14 h, MAt.r14 h, MAt.l14 h, MAt.g16 h, MAt.n16 h, MAt.r16 h, MAt.l16 h, MAt.g17 h, MAt.n17 h, MAt.r17 h, MAt.l17 h, MAt.g19 h, MAt.n19 h, MAt.r19 h, MAt.l19 h, MAt.g20 h, MAt.n20 h, MAt.r20 h, MAt.l20 h, MAt.g25 h, MAt.n25 h, MAt.r25 h, MAt.l25 h, MAt.g26 h, MAt.n26 h, MAt.r26 h, MAt.l26 h, MAt.g27 h, MAt.n27 h, MAt.r27 h, MAt.l27 h, MAt.g28 h, MAt.n28 h, MAt.r28 h, MAt.l28 h, obs, b2s, lA, lB, lM, nI_add, pk_mul]
      rw [h18, nI_1]
      refine RW.pF h fun M1 h1 => RW.ret h1 ⟨rfl, A 17, ?_, fun q hq hq2 => by omega, fun q hq => rfl⟩
      funext j
      unfold va_up
      split
      · rename_i e; rw [e]
      · rfl
    · rw [if_neg (fun q => he (hc.mp q))]
      simp (disch := omega) only [MAt.ck h, MAt.i0 h, MAt.i2 h, MAt.i3 h, MAt.i4 h, MAt.i5 h, MAt.i6 h, MAt.i7 h, MAt.i8 h, MAt.i9 h, MAt.i15 h, MAt.i18 h, MAt.i21 h, MAt.i22 h, MAt.i23 h, MAt.i24 h, MAt.g1 h, MAt.n1 h, MAt.r1 h, MAt.l1 h, MAt.g10 h, MAt.n10 h, MAt.r10 h, MAt.l10 h, MAt.g11 h, MAt.n11 h, MAt.r11 h, MAt.l11 h, MAt.g12 h, MAt.n12 h, MAt.r12 h, MAt.l12 h, MAt.g13 h, MAt.n13 h, MAt.r13 h, MAt.l13 h, MAt.g14 h, MAt.n14 h, MAt.r14 h, MAt.l14 h, MAt.g16 h, MAt.n16 h, MAt.r16 h, MAt.l16 h, MAt.g17 h, MAt.n17 h, MAt.r17 h, MAt.l17 h, MAt.g19 h, MAt.n19 h, MAt.r19 h, MAt.l19 h, MAt.g20 h, MAt.n20 h, MAt.r20 h, MAt.l20 h, MAt.g25 h, MAt.n25 h, MAt.r25 h, MAt.l25 h, MAt.g26 h, MAt.n26 h, MAt.r26 h, MAt.l26 h, MAt.g27 h, MAt.n27 h, MAt.r27 h, MAt.l27 h, MAt.g28 h, MAt.n28 h, MAt.r28 h, MAt.l28 h, obs, b2s, lA, lB, lM, nI_add, pk_mul]
      rw [h18, lM, nI_add]
      refine RW.w17 h (by omega) fun M1 h1 => ?_
      refine (ih (i + 1) M1 F _ h1 h18 (by omega) (by omega)).imp ?_
      rintro r F' A' ⟨q1, H, q2, q3, q4⟩
      refine ⟨q1, H, by rw [q2, bx_uu], fun q hq hq2 => ?_, fun q hq => ?_⟩
      · by_cases hqi : q = i
        · subst hqi
          rw [q4 _ (by omega)]
          show upd (A 17) (412 * d + q) (A 16 q) (412 * d + q) = A 16 q
          rw [pk_us]
        · exact q3 q hq (by omega)
      · rw [q4 q (by omega)]
        show upd (A 17) (412 * d + i) (A 16 i) q = A 17 q
        rw [pk_un (by omega)]
theorem rf_kp2 (hN : 2 ^ 15 ≤ N) : ∀ (m i : Nat) (M : Mem) (F : Nat → Int32) (A : Nat → Nat → Int32), MAt M F A → F 18 = nI 12 → i ≤ 4532 → 4532 - i < m → RW M (fn_X10_keep_11 N m M 389 (nI i)) (fun _ F' A' => F' = upd (upd F 18 (nI 11)) 18 (nI 12) ∧ ∃ H, A' = va_up A 17 H ∧ (∀ q, q < 412 → H (4532 + q) = A 16 q) ∧ (∀ q, q < 4532 → i ≤ q → H q = A 17 (q + 412)) ∧ ∀ q, q < i → H q = A 17 q) := by
  intro m
  induction m with
  | zero => intro i M F A _ _ _ h; omega
  | succ m ih =>
    intro i M F A h h18 hi hm
    rw [fn_X10_keep_11.eq_2]
    simp (disch := omega) only [MAt.ck h, MAt.i0 h, MAt.i2 h, MAt.i3 h, MAt.i4 h, MAt.i5 h, MAt.i6 h, MAt.i7 h, MAt.i8 h, MAt.i9 h, MAt.i15 h, MAt.i18 h, MAt.i21 h, MAt.i22 h, MAt.i23 h, MAt.i24 h, MAt.g1 h, MAt.n1 h, MAt.r1 h, MAt.l1 h, MAt.g10 h, MAt.n10 h, MAt.r10 h, MAt.l10 h, MAt.g11 h, MAt.n11 h, MAt.r11 h, MAt.l11 h, MAt.g12 h, MAt.n12 h, MAt.r12 h, MAt.l12 h, MAt.g13 h, MAt.n13 h, MAt.r13 h, MAt.l13 h, MAt.g14 h, MAt.n14 h, MAt.r14 h, MAt.l14 h, MAt.g16 h, MAt.n16 h, MAt.r16 h, MAt.l16 h, MAt.g17 h, MAt.n17 h, MAt.r17 h, MAt.l17 h, MAt.g19 h, MAt.n19 h, MAt.r19 h, MAt.l19 h, MAt.g20 h, MAt.n20 h, MAt.r20 h, MAt.l20 h, MAt.g25 h, MAt.n25 h, MAt.r25 h, MAt.l25 h, MAt.g26 h, MAt.n26 h, MAt.r26 h, MAt.l26 h, MAt.g27 h, MAt.n27 h, MAt.r27 h, MAt.l27 h, MAt.g28 h, MAt.n28 h, MAt.r28 h, MAt.l28 h, obs, b2s, lA, lB, lM, nI_add, pk_mul]
    rw [lS (by omega)]
    have hc := nI_leI (a := 4944 - 412) (b := i) (by omega) (by omega)
    by_cases he : 4944 - 412 ≤ i
    · rw [if_pos (hc.mpr he), h18, show nI 12 - 1 = nI 11 from rfl]
      refine RW.pF h fun M1 h1 => ?_
      unfold fn_X10_keep_56
      have := rf_kp1 (N := N) 11 (by omega) N 0 M1 _ _ h1 pk_us (by omega) (by omega)
      rw [nI_0] at this
      refine this.imp ?_
      rintro r F' A' ⟨q1, H, q2, q3, q4⟩
      exact ⟨q1, H, q2, fun q hq => q3 q hq (by omega), fun q hq hq2 => by omega, fun q hq => q4 q (by omega)⟩
    · rw [if_neg (fun q => he (hc.mp q))]
      simp (disch := omega) only [MAt.ck h, MAt.i0 h, MAt.i2 h, MAt.i3 h, MAt.i4 h, MAt.i5 h, MAt.i6 h, MAt.i7 h, MAt.i8 h, MAt.i9 h, MAt.i15 h, MAt.i18 h, MAt.i21 h, MAt.i22 h, MAt.i23 h, MAt.i24 h, MAt.g1 h, MAt.n1 h, MAt.r1 h, MAt.l1 h, MAt.g10 h, MAt.n10 h, MAt.r10 h, MAt.l10 h, MAt.g11 h, MAt.n11 h, MAt.r11 h, MAt.l11 h, MAt.g12 h, MAt.n12 h, MAt.r12 h, MAt.l12 h, MAt.g13 h, MAt.n13 h, MAt.r13 h, MAt.l13 h, MAt.g14 h, MAt.n14 h, MAt.r14 h, MAt.l14 h, MAt.g16 h, MAt.n16 h, MAt.r16 h, MAt.l16 h, MAt.g17 h, MAt.n17 h, MAt.r17 h, MAt.l17 h, MAt.g19 h, MAt.n19 h, MAt.r19 h, MAt.l19 h, MAt.g20 h, MAt.n20 h, MAt.r20 h, MAt.l20 h, MAt.g25 h, MAt.n25 h, MAt.r25 h, MAt.l25 h, MAt.g26 h, MAt.n26 h, MAt.r26 h, MAt.l26 h, MAt.g27 h, MAt.n27 h, MAt.r27 h, MAt.l27 h, MAt.g28 h, MAt.n28 h, MAt.r28 h, MAt.l28 h, obs, b2s, lA, lB, lM, nI_add, pk_mul]
      refine RW.w17 h (by omega) fun M1 h1 => ?_
      refine (ih (i + 1) M1 F _ h1 h18 (by omega) (by omega)).imp ?_
      rintro r F' A' ⟨q1, H, q2, q3, q4, q5⟩
      refine ⟨q1, H, by rw [q2, bx_uu], q3, fun q hq hq2 => ?_, fun q hq => ?_⟩
      · by_cases hqi : q = i
        · subst hqi
          rw [q5 _ (by omega)]
          show upd (A 17) q (A 17 (q + 412)) q = A 17 (q + 412)
          rw [pk_us]
        · rw [q4 q hq (by omega)]
          show upd (A 17) i (A 17 (i + 412)) (q + 412) = A 17 (q + 412)
          rw [pk_un (by omega)]
      · rw [q5 q (by omega)]
        show upd (A 17) i (A 17 (i + 412)) q = A 17 q
        rw [pk_un (by omega)]
/-- keep: the state goes on top of the undo list -/
theorem rf_keep (hN : 2 ^ 15 ≤ N) {M : Mem} {F : Nat → Int32} {A : Nat → Nat → Int32} (h : MAt M F A) (hs : RelS (A 16) σ) (hu : RelU (F 18) (A 17) U) : RW M (fn_X10_keep N M 389) (fun _ F' A' => F' 0 = F 0 ∧ F' 2 = F 2 ∧ ∃ H, A' = va_up A 17 H ∧ RelU (F' 18) H (pushU σ U)) := by
  obtain ⟨h18, hle, hr⟩ := hu
  unfold fn_X10_keep
  simp (disch := omega) only [MAt.ck h, MAt.i0 h, MAt.i2 h, MAt.i3 h, MAt.i4 h, MAt.i5 h, MAt.i6 h, MAt.i7 h, MAt.i8 h, MAt.i9 h, MAt.i15 h, MAt.i18 h, MAt.i21 h, MAt.i22 h, MAt.i23 h, MAt.i24 h, MAt.g1 h, MAt.n1 h, MAt.r1 h, MAt.l1 h, MAt.g10 h, MAt.n10 h, MAt.r10 h, MAt.l10 h, MAt.g11 h, MAt.n11 h, MAt.r11 h, MAt.l11 h, MAt.g12 h, MAt.n12 h, MAt.r12 h, MAt.l12 h, MAt.g13 h, MAt.n13 h, MAt.r13 h, MAt.l13 h, MAt.g14 h, MAt.n14 h, MAt.r14 h, MAt.l14 h, MAt.g16 h, MAt.n16 h, MAt.r16 h, MAt.l16 h, MAt.g17 h, MAt.n17 h, MAt.r17 h, MAt.l17 h, MAt.g19 h, MAt.n19 h, MAt.r19 h, MAt.l19 h, MAt.g20 h, MAt.n20 h, MAt.r20 h, MAt.l20 h, MAt.g25 h, MAt.n25 h, MAt.r25 h, MAt.l25 h, MAt.g26 h, MAt.n26 h, MAt.r26 h, MAt.l26 h, MAt.g27 h, MAt.n27 h, MAt.r27 h, MAt.l27 h, MAt.g28 h, MAt.n28 h, MAt.r28 h, MAt.l28 h, obs, b2s, lA, lB, lM, nI_add, pk_mul]
  rw [h18]
  have hc := lEq (m := 12) (n := U.length) (by decide) (by omega)
  by_cases he : U.length = 12
  · rw [if_pos (hc.mpr he)]
    rw [he] at h18
    have := rf_kp2 (N := N) hN N 0 M F A h h18 (by omega) (by omega)
    rw [nI_0] at this
    refine this.imp ?_
    rintro r F' A' ⟨rfl, H, q2, q3, q4, q5⟩
    have hlen : (pushU σ U).length = 12 := by simp [pushU]; omega
    refine ⟨rfl, rfl, H, q2, ?_, by omega, fun i hi => ?_⟩
    · rw [pk_us, hlen]
    · rw [hlen] at hi ⊢
      unfold pushU
      rw [List.getElem?_take_of_lt hi]
      cases i with
      | zero =>
        exact ⟨σ, rfl, hs.congr fun k hk => q3 k hk⟩
      | succ i =>
        obtain ⟨u, u1, u2⟩ := hr i (by omega)
        refine ⟨u, by rw [List.getElem?_cons_succ]; exact u1, u2.congr fun k hk => ?_⟩
        rw [q4 _ (by omega) (by omega), he]
        congr 1
        omega
  · rw [if_neg (fun q => he (hc.mp q))]
    unfold fn_X10_keep_56
    have := rf_kp1 (N := N) U.length (by omega) N 0 M F A h h18 (by omega) (by omega)
    rw [nI_0] at this
    refine this.imp ?_
    rintro r F' A' ⟨rfl, H, q2, q3, q4⟩
    have hlen : (pushU σ U).length = U.length + 1 := by simp [pushU]; omega
    refine ⟨rfl, rfl, H, q2, ?_, by omega, fun i hi => ?_⟩
    · rw [pk_us, hlen]
    · rw [hlen] at hi ⊢
      unfold pushU
      rw [List.getElem?_take_of_lt (by omega)]
      cases i with
      | zero =>
        refine ⟨σ, rfl, hs.congr fun k hk => ?_⟩
        have := q3 k hk (by omega)
        simpa using this
      | succ i =>
        obtain ⟨u, u1, u2⟩ := hr i (by omega)
        refine ⟨u, by rw [List.getElem?_cons_succ]; exact u1, u2.congr fun k hk => ?_⟩
        rw [q4 _ (by omega)]
        congr 1
        omega
theorem rf_und (d : Nat) (hd : d < 12) : ∀ (m i : Nat) (M : Mem) (F : Nat → Int32) (A : Nat → Nat → Int32), MAt M F A → F 18 = nI d → i ≤ 412 → 412 - i < m → RW M (fn_X10_undo_27 N m M 389 (nI i)) (fun r F' A' => r = nI d ∧ F' = F ∧ ∃ S, A' = va_up A 16 S ∧ (∀ q, q < 412 → i ≤ q → S q = A 17 (412 * d + q)) ∧ ∀ q, q < i → S q = A 16 q) := by
  intro m
  induction m with
  | zero => intro i M F A _ _ _ h; omega
  | succ m ih =>
    intro i M F A h h18 hi hm
    rw [fn_X10_undo_27.eq_2]
    have hc := lLe (m := 412) (n := i) (by decide) (by omega)
    by_cases he : 412 ≤ i
    · rw [if_pos (hc.mpr he)]
      simp (disch := omega) only [MAt.ck h, MAt.i0 h, MAt.i2 h, MAt.i3 h, MAt.i4 h, MAt.i5 h, MAt.i6 h, MAt.i7 h, MAt.i8 h, MAt.i9 h, MAt.i15 h, MAt.i18 h, MAt.i21 h, MAt.i22 h, MAt.i23 h, MAt.i24 h, MAt.g1 h, MAt.n1 h, MAt.r1 h, MAt.l1 h, MAt.g10 h, MAt.n10 h, MAt.r10 h, MAt.l10 h, MAt.g11 h, MAt.n11 h, MAt.r11 h, MAt.l11 h, MAt.g12 h, MAt.n12 h, MAt.r12 h, MAt.l12 h, MAt.g13 h, MAt.n13 h, MAt.r13 h, MAt.l13 h, MAt.g14 h, MAt.n14 h, MAt.r14 h, MAt.l14 h, MAt.g16 h, MAt.n16 h, MAt.r16 h, MAt.l16 h, MAt.g17 h, MAt.n17 h, MAt.r17 h, MAt.l17 h, MAt.g19 h, MAt.n19 h, MAt.r19 h, MAt.l19 h, MAt.g20 h, MAt.n20 h, MAt.r20 h, MAt.l20 h, MAt.g25 h, MAt.n25 h, MAt.r25 h, MAt.l25 h, MAt.g26 h, MAt.n26 h, MAt.r26 h, MAt.l26 h, MAt.g27 h, MAt.n27 h, MAt.r27 h, MAt.l27 h, MAt.g28 h, MAt.n28 h, MAt.r28 h, MAt.l28 h, obs, b2s, lA, lB, lM, nI_add, pk_mul]
      rw [h18]
      refine RW.ret h ⟨rfl, rfl, A 16, ?_, fun q hq hq2 => by omega, fun q hq => rfl⟩
      funext j
      unfold va_up
      split
      · rename_i e; rw [e]
      · rfl
    · rw [if_neg (fun q => he (hc.mp q))]
      simp (disch := omega) only [MAt.ck h, MAt.i0 h, MAt.i2 h, MAt.i3 h, MAt.i4 h, MAt.i5 h, MAt.i6 h, MAt.i7 h, MAt.i8 h, MAt.i9 h, MAt.i15 h, MAt.i18 h, MAt.i21 h, MAt.i22 h, MAt.i23 h, MAt.i24 h, MAt.g1 h, MAt.n1 h, MAt.r1 h, MAt.l1 h, MAt.g10 h, MAt.n10 h, MAt.r10 h, MAt.l10 h, MAt.g11 h, MAt.n11 h, MAt.r11 h, MAt.l11 h, MAt.g12 h, MAt.n12 h, MAt.r12 h, MAt.l12 h, MAt.g13 h, MAt.n13 h, MAt.r13 h, MAt.l13 h, MAt.g14 h, MAt.n14 h, MAt.r14 h, MAt.l14 h, MAt.g16 h, MAt.n16 h, MAt.r16 h, MAt.l16 h, MAt.g17 h, MAt.n17 h, MAt.r17 h, MAt.l17 h, MAt.g19 h, MAt.n19 h, MAt.r19 h, MAt.l19 h, MAt.g20 h, MAt.n20 h, MAt.r20 h, MAt.l20 h, MAt.g25 h, MAt.n25 h, MAt.r25 h, MAt.l25 h, MAt.g26 h, MAt.n26 h, MAt.r26 h, MAt.l26 h, MAt.g27 h, MAt.n27 h, MAt.r27 h, MAt.l27 h, MAt.g28 h, MAt.n28 h, MAt.r28 h, MAt.l28 h, obs, b2s, lA, lB, lM, nI_add, pk_mul]
      rw [h18, lM, nI_add]
      simp (disch := omega) only [MAt.ck h, MAt.i0 h, MAt.i2 h, MAt.i3 h, MAt.i4 h, MAt.i5 h, MAt.i6 h, MAt.i7 h, MAt.i8 h, MAt.i9 h, MAt.i15 h, MAt.i18 h, MAt.i21 h, MAt.i22 h, MAt.i23 h, MAt.i24 h, MAt.g1 h, MAt.n1 h, MAt.r1 h, MAt.l1 h, MAt.g10 h, MAt.n10 h, MAt.r10 h, MAt.l10 h, MAt.g11 h, MAt.n11 h, MAt.r11 h, MAt.l11 h, MAt.g12 h, MAt.n12 h, MAt.r12 h, MAt.l12 h, MAt.g13 h, MAt.n13 h, MAt.r13 h, MAt.l13 h, MAt.g14 h, MAt.n14 h, MAt.r14 h, MAt.l14 h, MAt.g16 h, MAt.n16 h, MAt.r16 h, MAt.l16 h, MAt.g17 h, MAt.n17 h, MAt.r17 h, MAt.l17 h, MAt.g19 h, MAt.n19 h, MAt.r19 h, MAt.l19 h, MAt.g20 h, MAt.n20 h, MAt.r20 h, MAt.l20 h, MAt.g25 h, MAt.n25 h, MAt.r25 h, MAt.l25 h, MAt.g26 h, MAt.n26 h, MAt.r26 h, MAt.l26 h, MAt.g27 h, MAt.n27 h, MAt.r27 h, MAt.l27 h, MAt.g28 h, MAt.n28 h, MAt.r28 h, MAt.l28 h, obs, b2s, lA, lB, lM, nI_add, pk_mul]
      refine RW.w16 h (by omega) fun M1 h1 => ?_
      refine (ih (i + 1) M1 F _ h1 h18 (by omega) (by omega)).imp ?_
      rintro r F' A' ⟨q0, q1, H, q2, q3, q4⟩
      refine ⟨q0, q1, H, by rw [q2, bx_uu], fun q hq hq2 => ?_, fun q hq => ?_⟩
      · by_cases hqi : q = i
        · subst hqi
          rw [q4 _ (by omega)]
          show upd (A 16) q (A 17 (412 * d + q)) q = A 17 (412 * d + q)
          rw [pk_us]
        · exact q3 q hq (by omega)
      · rw [q4 q (by omega)]
        show upd (A 16) i (A 17 (412 * d + i)) q = A 16 q
        rw [pk_un (by omega)]
theorem rf_sav (j : Nat) (hj : j < 2) : ∀ (m i : Nat) (M : Mem) (F : Nat → Int32) (A : Nat → Nat → Int32), MAt M F A → i ≤ 412 → 412 - i < m → RW M (fn_X10_saveSnapshot_19 N m M 389 (nI j) (nI i)) (fun r F' A' => r = 1 ∧ F' = F ∧ ∃ S, A' = va_up (va_up A 19 S) 20 (upd (A 20) j 1) ∧ (∀ q, q < 412 → i ≤ q → S (412 * j + q) = A 16 q) ∧ ∀ q, (q < 412 * j + i ∨ 412 * j + 412 ≤ q) → S q = A 19 q) := by
  intro m
  induction m with
  | zero => intro i M F A _ _ h; omega
  | succ m ih =>
    intro i M F A h hi hm
    rw [fn_X10_saveSnapshot_19.eq_2]
    have hc := lLe (m := 412) (n := i) (by decide) (by omega)
    by_cases he : 412 ≤ i
    · rw [if_pos (hc.mpr he)]
      simp (disch := omega) only [MAt.ck h, MAt.i0 h, MAt.i2 h, MAt.i3 h, MAt.i4 h, MAt.i5 h, MAt.i6 h, MAt.i7 h, MAt.i8 h, MAt.i9 h, MAt.i15 h, MAt.i18 h, MAt.i21 h, MAt.i22 h, MAt.i23 h, MAt.i24 h, MAt.g1 h, MAt.n1 h, MAt.r1 h, MAt.l1 h, MAt.g10 h, MAt.n10 h, MAt.r10 h, MAt.l10 h, MAt.g11 h, MAt.n11 h, MAt.r11 h, MAt.l11 h, MAt.g12 h, MAt.n12 h, MAt.r12 h, MAt.l12 h, MAt.g13 h, MAt.n13 h, MAt.r13 h, MAt.l13 h, MAt.g14 h, MAt.n14 h, MAt.r14 h, MAt.l14 h, MAt.g16 h, MAt.n16 h, MAt.r16 h, MAt.l16 h, MAt.g17 h, MAt.n17 h, MAt.r17 h, MAt.l17 h, MAt.g19 h, MAt.n19 h, MAt.r19 h, MAt.l19 h, MAt.g20 h, MAt.n20 h, MAt.r20 h, MAt.l20 h, MAt.g25 h, MAt.n25 h, MAt.r25 h, MAt.l25 h, MAt.g26 h, MAt.n26 h, MAt.r26 h, MAt.l26 h, MAt.g27 h, MAt.n27 h, MAt.r27 h, MAt.l27 h, MAt.g28 h, MAt.n28 h, MAt.r28 h, MAt.l28 h, obs, b2s, lA, lB, lM, nI_add, pk_mul]
      refine RW.w20 h (by omega) fun M1 h1 => RW.ret h1 ⟨rfl, rfl, A 19, ?_, fun q hq hq2 => by omega, fun q hq => rfl⟩
      have : va_up A 19 (A 19) = A := by
        funext j
        unfold va_up
        split
        · rename_i e; rw [e]
        · rfl
      rw [this]
      rfl
    · rw [if_neg (fun q => he (hc.mp q))]
      simp (disch := omega) only [MAt.ck h, MAt.i0 h, MAt.i2 h, MAt.i3 h, MAt.i4 h, MAt.i5 h, MAt.i6 h, MAt.i7 h, MAt.i8 h, MAt.i9 h, MAt.i15 h, MAt.i18 h, MAt.i21 h, MAt.i22 h, MAt.i23 h, MAt.i24 h, MAt.g1 h, MAt.n1 h, MAt.r1 h, MAt.l1 h, MAt.g10 h, MAt.n10 h, MAt.r10 h, MAt.l10 h, MAt.g11 h, MAt.n11 h, MAt.r11 h, MAt.l11 h, MAt.g12 h, MAt.n12 h, MAt.r12 h, MAt.l12 h, MAt.g13 h, MAt.n13 h, MAt.r13 h, MAt.l13 h, MAt.g14 h, MAt.n14 h, MAt.r14 h, MAt.l14 h, MAt.g16 h, MAt.n16 h, MAt.r16 h, MAt.l16 h, MAt.g17 h, MAt.n17 h, MAt.r17 h, MAt.l17 h, MAt.g19 h, MAt.n19 h, MAt.r19 h, MAt.l19 h, MAt.g20 h, MAt.n20 h, MAt.r20 h, MAt.l20 h, MAt.g25 h, MAt.n25 h, MAt.r25 h, MAt.l25 h, MAt.g26 h, MAt.n26 h, MAt.r26 h, MAt.l26 h, MAt.g27 h, MAt.n27 h, MAt.r27 h, MAt.l27 h, MAt.g28 h, MAt.n28 h, MAt.r28 h, MAt.l28 h, obs, b2s, lA, lB, lM, nI_add, pk_mul]
      refine RW.w19 h (by omega) fun M1 h1 => ?_
      refine (ih (i + 1) M1 F _ h1 (by omega) (by omega)).imp ?_
      rintro r F' A' ⟨q0, q1, S, q2, q3, q4⟩
      refine ⟨q0, q1, S, by rw [q2, bx_uu]; rfl, fun q hq hq2 => ?_, fun q hq => ?_⟩
      · by_cases hqi : q = i
        · subst hqi
          rw [q4 _ (by omega)]
          show upd (A 19) (412 * j + q) (A 16 q) (412 * j + q) = A 16 q
          rw [pk_us]
        · exact q3 q hq (by omega)
      · rw [q4 q (by omega)]
        show upd (A 19) (412 * j + i) (A 16 i) q = A 19 q
        rw [pk_un (by omega)]
theorem rf_res (j : Nat) (hj : j < 2) : ∀ (m i : Nat) (M : Mem) (F : Nat → Int32) (A : Nat → Nat → Int32), MAt M F A → i ≤ 412 → 412 - i < m → RW M (fn_X10_restoreSnapshot_28 N m M 389 (nI j) (nI i)) (fun r F' A' => r = 1 ∧ F' = upd F 18 0 ∧ ∃ S, A' = va_up A 16 S ∧ (∀ q, q < 412 → i ≤ q → S q = A 19 (412 * j + q)) ∧ ∀ q, q < i → S q = A 16 q) := by
  intro m
  induction m with
  | zero => intro i M F A _ _ h; omega
  | succ m ih =>
    intro i M F A h hi hm
    rw [fn_X10_restoreSnapshot_28.eq_2]
    have hc := lLe (m := 412) (n := i) (by decide) (by omega)
    by_cases he : 412 ≤ i
    · rw [if_pos (hc.mpr he)]
      refine RW.pF h fun M1 h1 => RW.ret h1 ⟨rfl, rfl, A 16, ?_, fun q hq hq2 => by omega, fun q hq => rfl⟩
      funext j
      unfold va_up
      split
      · rename_i e; rw [e]
      · rfl
    · rw [if_neg (fun q => he (hc.mp q))]
      simp (disch := omega) only [MAt.ck h, MAt.i0 h, MAt.i2 h, MAt.i3 h, MAt.i4 h, MAt.i5 h, MAt.i6 h, MAt.i7 h, MAt.i8 h, MAt.i9 h, MAt.i15 h, MAt.i18 h, MAt.i21 h, MAt.i22 h, MAt.i23 h, MAt.i24 h, MAt.g1 h, MAt.n1 h, MAt.r1 h, MAt.l1 h, MAt.g10 h, MAt.n10 h, MAt.r10 h, MAt.l10 h, MAt.g11 h, MAt.n11 h, MAt.r11 h, MAt.l11 h, MAt.g12 h, MAt.n12 h, MAt.r12 h, MAt.l12 h, MAt.g13 h, MAt.n13 h, MAt.r13 h, MAt.l13 h, MAt.g14 h, MAt.n14 h, MAt.r14 h, MAt.l14 h, MAt.g16 h, MAt.n16 h, MAt.r16 h, MAt.l16 h, MAt.g17 h, MAt.n17 h, MAt.r17 h, MAt.l17 h, MAt.g19 h, MAt.n19 h, MAt.r19 h, MAt.l19 h, MAt.g20 h, MAt.n20 h, MAt.r20 h, MAt.l20 h, MAt.g25 h, MAt.n25 h, MAt.r25 h, MAt.l25 h, MAt.g26 h, MAt.n26 h, MAt.r26 h, MAt.l26 h, MAt.g27 h, MAt.n27 h, MAt.r27 h, MAt.l27 h, MAt.g28 h, MAt.n28 h, MAt.r28 h, MAt.l28 h, obs, b2s, lA, lB, lM, nI_add, pk_mul]
      refine RW.w16 h (by omega) fun M1 h1 => ?_
      refine (ih (i + 1) M1 F _ h1 (by omega) (by omega)).imp ?_
      rintro r F' A' ⟨q0, q1, S, q2, q3, q4⟩
      refine ⟨q0, q1, S, by rw [q2, bx_uu], fun q hq hq2 => ?_, fun q hq => ?_⟩
      · by_cases hqi : q = i
        · subst hqi
          rw [q4 _ (by omega)]
          show upd (A 16) q (A 19 (412 * j + q)) q = A 19 (412 * j + q)
          rw [pk_us]
        · exact q3 q hq (by omega)
      · rw [q4 q (by omega)]
        show upd (A 16) i (A 19 (412 * j + i)) q = A 16 q
        rw [pk_un (by omega)]
end RK
