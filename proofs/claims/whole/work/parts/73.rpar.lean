/-! PURE: the reference's parse -/
section RY
variable {N : Nat} {tb : Nat → Int32} {n : Nat}
theorem rf_semi (hN : 2 ^ 15 ≤ N) {M : Mem} {F : Nat → Int32} {A : Nat → Nat → Int32} {p : Ps} (h : MAt M F A) (ht : TB (A 1) tb n) (hp : RTP tb n F p) (K : Mem → Nat → Option (Int32 × Mem)) : ∃ M' F', (if F 6 = 59 then fn_X10_parse_128 N K M 389 1 389 else fn_X10_parse_128 N K M 389 0 389) = K M' 389 ∧ MAt M' F' A ∧ Fr M M' 389 404 ∧ Kr F F' ∧ F' 15 = F 15 ∧ RTP tb n F' (smS tb n p) := by
  by_cases h0 : p.1 = 0
  · obtain ⟨f8, hk, he⟩ := hp.ok h0
    unfold smS
    rw [if_pos h0, hk.2.2.2.1]
    by_cases k4 : tkK tb n p.2.2 = 4
    · have hb := tk_nz ht.2.1 he k4 (by decide)
      have h5 := hk.2.2.1 (by rw [k4]; decide)
      rw [k4, if_pos (show rfK 4 = 59 by decide), if_pos (show (4 : Int32) = 4 from rfl)]
      unfold fn_X10_parse_128
      rw [h.ck, obs, rf_must_ok h f8 (by decide), b2s, if_neg (by decide), h.ck, obs]
      obtain ⟨r, M1, F1, A1, s1, h1, f1, rfl, t1, t2⟩ := rf_nextTok hN h ht hk.1 h5 hb.2
      rw [s1, b2s]
      exact ⟨M1, F1, rfl, h1, f1, t2.kq.kr, t2.2.2.2.2.2.1, RTP.mk0 rfl ⟨t2.2.2.2.1.trans f8, t1, hb.2⟩⟩
    · rw [if_neg (rfK_59 k4), if_neg k4]
      unfold fn_X10_parse_128
      rw [h.ck, obs]
      obtain ⟨r, M1, F1, A1, s1, h1, f1, rfl, rfl, rfl⟩ := rf_must_err (N := N) h f8 (k := 1) (by decide)
      have n0 : ¬ ((8 * tkS tb n p.2.2 + 1, tkS tb n p.2.2, tkE tb n p.2.2) : Ps).1 = 0 := by show ¬ 8 * tkS tb n p.2.2 + 1 = 0; omega
      rw [s1, b2s, if_pos rfl]
      refine ⟨M1, _, rfl, h1, f1, ⟨rfl, rfl, rfl, rfl⟩, rfl, RTP.mkE n0 ?_⟩
      exact rte_mk (F := F) (s := tkS tb n p.2.2) (k := 1) hk.2.1 rfl (by omega) (by omega)
  · obtain ⟨f8, -⟩ := hp.er h0
    unfold smS
    rw [if_neg h0]
    refine ⟨M, F, ?_, h, Fr.rf, Kr.rf, rfl, hp⟩
    have e : ∀ x, fn_X10_parse_128 N K M 389 x 389 = K M 389 := fun x => by
      unfold fn_X10_parse_128
      rw [h.ck, obs, rf_must_was h f8, b2s, if_pos rfl]
    rw [e, e]
    split <;> rfl
theorem rf_p95 (hN : 2 ^ 15 ≤ N) : ∀ (f m : Nat) (p : Ps) (κ : Cf) (fl : Nat → Nat) (M : Mem) (F : Nat → Int32) (A : Nat → Nat → Int32), MAt M F A → TB (A 1) tb n → RTP tb n F p → (p.1 = 0 → RelD A κ ∧ FGr F fl ∧ WFK κ ∧ n + 1 - p.2.2 ≤ f) → f < m → ∃ M' F' A', fn_X10_parse_95 N m M 389 = fn_X10_parse_142 N M' 389 ∧ MAt M' F' A' ∧ Fr M M' 389 404 ∧ Dft A A' ∧ Kr F F' ∧ RTP tb n F' (plS tb n f p κ fl).1 ∧ ((plS tb n f p κ fl).1.1 = 0 → RelD A' (plS tb n f p κ fl).2 ∧ WFK (plS tb n f p κ fl).2) := by
  intro f
  induction f with
  | zero =>
    intro m p κ fl M F A h ht hp hq hm
    have hne : ¬ p.1 = 0 := fun z => by have := (hq z).2.2.2; have := (hp.ok z).2.2; omega
    obtain ⟨k, rfl⟩ : ∃ k, m = k + 1 := ⟨m - 1, by omega⟩
    refine ⟨M, F, A, ?_, h, Fr.rf, Dft.rf, Kr.rf, hp, fun z => absurd z hne⟩
    rw [fn_X10_parse_95.eq_2, h.i8, obs, if_neg (hp.er hne).1]
  | succ f ih =>
    intro m p κ fl M F A h ht hp hq hm
    obtain ⟨k, rfl⟩ : ∃ k, m = k + 1 := ⟨m - 1, by omega⟩
    rw [fn_X10_parse_95.eq_2, h.i8, obs]
    by_cases h0 : p.1 = 0
    · obtain ⟨f8, hk, he⟩ := hp.ok h0
      obtain ⟨hd, hfl, w, hf⟩ := hq h0
      rw [if_pos f8, h.i6, obs, hk.2.2.2.1]
      by_cases k0 : tkK tb n p.2.2 = 0
      · have e0 : plS tb n (f + 1) p κ fl = (p, κ) := by rw [plS, if_pos h0, if_pos k0]
        rw [e0, k0, if_pos (show rfK 0 = 0 by decide)]
        exact ⟨M, F, A, rfl, h, Fr.rf, Dft.rf, Kr.rf, hp, fun _ => ⟨hd, w⟩⟩
      · have e1 : plS tb n (f + 1) p κ fl = plS tb n f (smS tb n (stB tb n (tkK tb n p.2.2) (0, tkS tb n p.2.2, tkE tb n p.2.2) κ fl).1) (stB tb n (tkK tb n p.2.2) (0, tkS tb n p.2.2, tkE tb n p.2.2) κ fl).2.1 (stB tb n (tkK tb n p.2.2) (0, tkS tb n p.2.2, tkE tb n p.2.2) κ fl).2.2 := by rw [plS, if_pos h0, if_neg k0]
        have hb := tk_nz ht.2.1 he (c := tkK tb n p.2.2) rfl k0
        obtain ⟨r, M1, F1, A1, s1, h1, f1, g1, g2, g3, g4⟩ := rf_stmt hN h ht f8 he hk k0 hfl hd w
        have ht1 : TB (A1 1) tb n := by rw [g1.1 1 (by omega)]; exact ht
        rw [e1, if_neg (rfK_0 k0), h.ck, obs, s1, b2s, h1.i6, obs]
        obtain ⟨M2, F2, s2, h2, f2, g5, g6, g7⟩ := rf_semi hN h1 ht1 g3 (fn_X10_parse_95 N k)
        rw [s2]
        have hz : (smS tb n (stB tb n (tkK tb n p.2.2) (0, tkS tb n p.2.2, tkE tb n p.2.2) κ fl).1).1 = 0 → RelD A1 (stB tb n (tkK tb n p.2.2) (0, tkS tb n p.2.2, tkE tb n p.2.2) κ fl).2.1 ∧ FGr F2 (stB tb n (tkK tb n p.2.2) (0, tkS tb n p.2.2, tkE tb n p.2.2) κ fl).2.2 ∧ WFK (stB tb n (tkK tb n p.2.2) (0, tkS tb n p.2.2, tkE tb n p.2.2) κ fl).2.1 ∧ n + 1 - (smS tb n (stB tb n (tkK tb n p.2.2) (0, tkS tb n p.2.2, tkE tb n p.2.2) κ fl).1).2.2 ≤ f := by
          intro z
          obtain ⟨z1, z2, z3⟩ := adv_sm ht.2.1 (p := (stB tb n (tkK tb n p.2.2) (0, tkS tb n p.2.2, tkE tb n p.2.2) κ fl).1) (fun y => (g3.ok y).2.2) z
          obtain ⟨-, a2, a3⟩ := adv_stB ht.2.1 (k := tkK tb n p.2.2) (p := (0, tkS tb n p.2.2, tkE tb n p.2.2)) (κ := κ) (fl := fl) (fun _ => hb.2) z1
          obtain ⟨y1, y2⟩ := g4 z1
          have a2' : tkE tb n p.2.2 ≤ (stB tb n (tkK tb n p.2.2) (0, tkS tb n p.2.2, tkE tb n p.2.2) κ fl).1.2.2 := a2
          exact ⟨y1, ⟨g6.trans y2.1, y2.2⟩, w.stm z1, by omega⟩
        obtain ⟨M3, F3, A3, s3, h3, f3, x1, x2, x3, x4⟩ := ih k _ _ _ M2 F2 A1 h2 ht1 g7 hz (by omega)
        exact ⟨M3, F3, A3, s3, h3, f1.tr (f2.tr f3), g1.tr x1, g2.tr (g5.tr x2), x3, x4⟩
    · have e0 : plS tb n (f + 1) p κ fl = (p, κ) := by rw [plS, if_neg h0]
      rw [e0, if_neg (hp.er h0).1]
      exact ⟨M, F, A, rfl, h, Fr.rf, Dft.rf, Kr.rf, hp, fun z => absurd z h0⟩
theorem va_selfK {A : Nat → Nat → Int32} {k : Nat} : va_up A k (A k) = A := by
  funext j
  unfold va_up
  split
  · rename_i e; rw [e]
  · rfl
theorem rf_ad12 : ∀ (m i : Nat) (M : Mem) (F : Nat → Int32) (A : Nat → Nat → Int32), MAt M F A → i ≤ 60 → 60 - i < m → RW M (fn_X10_adopt_2 N m M 393 (nI i)) (fun _ F' A' => F' = F ∧ ∃ K, A' = va_up A 12 K ∧ (∀ q, i ≤ q → q < 60 → K q = A 12 (60 + q)) ∧ ∀ q, ¬ (i ≤ q ∧ q < 60) → K q = A 12 q) := by
  intro m
  induction m with
  | zero => intro i M F A _ _ h; omega
  | succ m ih =>
    intro i M F A h hi hm
    have d : mm_dI (nI 120) 2 = some (nI 60) := by decide +kernel
    rw [fn_X10_adopt_2.eq_2]
    simp only [h.n12, d, obs]
    by_cases q : i < 60
    · rw [if_neg (nI_ge q (by decide)), nI_add, h.r12 (by omega), obs]
      refine RW.w12 h (by omega) fun M1 h1 => ?_
      rw [nI_1]
      refine (ih (i + 1) M1 F _ h1 (by omega) (by omega)).imp ?_
      rintro r F' A' ⟨rfl, K, rfl, k1, k2⟩
      refine ⟨rfl, K, bx_uu _ _ _ _, fun j h1 h2 => ?_, fun j hj => ?_⟩
      · by_cases z : j = i
        · rw [z, k2 i (by omega)]
          show upd (A 12) i (A 12 (60 + i)) i = _
          rw [pk_us]
        · rw [k1 j (by omega) h2]
          show upd (A 12) i (A 12 (60 + i)) (60 + j) = _
          rw [pk_un (by omega)]
      · rw [k2 j (by omega)]
        show upd (A 12) i (A 12 (60 + i)) j = _
        rw [pk_un (by omega)]
    · have e : i = 60 := by omega
      subst e
      rw [if_pos (Int32.le_refl _)]
      exact RW.ret h ⟨rfl, A 12, va_selfK.symm, fun j h1 h2 => by omega, fun j _ => rfl⟩
theorem rf_adopt12 (hN : 2 ^ 15 ≤ N) {M : Mem} {F : Nat → Int32} {A : Nat → Nat → Int32} (h : MAt M F A) : RW M (fn_X10_adopt N M 393) (fun _ F' A' => F' = F ∧ ∃ K, A' = va_up A 12 K ∧ ∀ q, q < 60 → K q = A 12 (60 + q)) := by
  unfold fn_X10_adopt
  refine (rf_ad12 (N := N) N 0 M F A h (by omega) (by omega)).imp ?_
  rintro r F' A' ⟨e1, K, e2, e3, e4⟩
  exact ⟨e1, K, e2, fun q hq => e3 q (by omega) hq⟩
theorem rf_ad13 : ∀ (m i : Nat) (M : Mem) (F : Nat → Int32) (A : Nat → Nat → Int32), MAt M F A → i ≤ 8 → 8 - i < m → RW M (fn_X10_adopt_2 N m M 394 (nI i)) (fun _ F' A' => F' = F ∧ ∃ K, A' = va_up A 13 K ∧ (∀ q, i ≤ q → q < 8 → K q = A 13 (8 + q)) ∧ ∀ q, ¬ (i ≤ q ∧ q < 8) → K q = A 13 q) := by
  intro m
  induction m with
  | zero => intro i M F A _ _ h; omega
  | succ m ih =>
    intro i M F A h hi hm
    have d : mm_dI (nI 16) 2 = some (nI 8) := by decide +kernel
    rw [fn_X10_adopt_2.eq_2]
    simp only [h.n13, d, obs]
    by_cases q : i < 8
    · rw [if_neg (nI_ge q (by decide)), nI_add, h.r13 (by omega), obs]
      refine RW.w13 h (by omega) fun M1 h1 => ?_
      rw [nI_1]
      refine (ih (i + 1) M1 F _ h1 (by omega) (by omega)).imp ?_
      rintro r F' A' ⟨rfl, K, rfl, k1, k2⟩
      refine ⟨rfl, K, bx_uu _ _ _ _, fun j h1 h2 => ?_, fun j hj => ?_⟩
      · by_cases z : j = i
        · rw [z, k2 i (by omega)]
          show upd (A 13) i (A 13 (8 + i)) i = _
          rw [pk_us]
        · rw [k1 j (by omega) h2]
          show upd (A 13) i (A 13 (8 + i)) (8 + j) = _
          rw [pk_un (by omega)]
      · rw [k2 j (by omega)]
        show upd (A 13) i (A 13 (8 + i)) j = _
        rw [pk_un (by omega)]
    · have e : i = 8 := by omega
      subst e
      rw [if_pos (Int32.le_refl _)]
      exact RW.ret h ⟨rfl, A 13, va_selfK.symm, fun j h1 h2 => by omega, fun j _ => rfl⟩
theorem rf_adopt13 (hN : 2 ^ 15 ≤ N) {M : Mem} {F : Nat → Int32} {A : Nat → Nat → Int32} (h : MAt M F A) : RW M (fn_X10_adopt N M 394) (fun _ F' A' => F' = F ∧ ∃ K, A' = va_up A 13 K ∧ ∀ q, q < 8 → K q = A 13 (8 + q)) := by
  unfold fn_X10_adopt
  refine (rf_ad13 (N := N) N 0 M F A h (by omega) (by omega)).imp ?_
  rintro r F' A' ⟨e1, K, e2, e3, e4⟩
  exact ⟨e1, K, e2, fun q hq => e3 q (by omega) hq⟩
theorem rf_ad14 : ∀ (m i : Nat) (M : Mem) (F : Nat → Int32) (A : Nat → Nat → Int32), MAt M F A → i ≤ 8 → 8 - i < m → RW M (fn_X10_adopt_2 N m M 395 (nI i)) (fun _ F' A' => F' = F ∧ ∃ K, A' = va_up A 14 K ∧ (∀ q, i ≤ q → q < 8 → K q = A 14 (8 + q)) ∧ ∀ q, ¬ (i ≤ q ∧ q < 8) → K q = A 14 q) := by
  intro m
  induction m with
  | zero => intro i M F A _ _ h; omega
  | succ m ih =>
    intro i M F A h hi hm
    have d : mm_dI (nI 16) 2 = some (nI 8) := by decide +kernel
    rw [fn_X10_adopt_2.eq_2]
    simp only [h.n14, d, obs]
    by_cases q : i < 8
    · rw [if_neg (nI_ge q (by decide)), nI_add, h.r14 (by omega), obs]
      refine RW.w14 h (by omega) fun M1 h1 => ?_
      rw [nI_1]
      refine (ih (i + 1) M1 F _ h1 (by omega) (by omega)).imp ?_
      rintro r F' A' ⟨rfl, K, rfl, k1, k2⟩
      refine ⟨rfl, K, bx_uu _ _ _ _, fun j h1 h2 => ?_, fun j hj => ?_⟩
      · by_cases z : j = i
        · rw [z, k2 i (by omega)]
          show upd (A 14) i (A 14 (8 + i)) i = _
          rw [pk_us]
        · rw [k1 j (by omega) h2]
          show upd (A 14) i (A 14 (8 + i)) (8 + j) = _
          rw [pk_un (by omega)]
      · rw [k2 j (by omega)]
        show upd (A 14) i (A 14 (8 + i)) j = _
        rw [pk_un (by omega)]
    · have e : i = 8 := by omega
      subst e
      rw [if_pos (Int32.le_refl _)]
      exact RW.ret h ⟨rfl, A 14, va_selfK.symm, fun j h1 h2 => by omega, fun j _ => rfl⟩
theorem rf_adopt14 (hN : 2 ^ 15 ≤ N) {M : Mem} {F : Nat → Int32} {A : Nat → Nat → Int32} (h : MAt M F A) : RW M (fn_X10_adopt N M 395) (fun _ F' A' => F' = F ∧ ∃ K, A' = va_up A 14 K ∧ ∀ q, q < 8 → K q = A 14 (8 + q)) := by
  unfold fn_X10_adopt
  refine (rf_ad14 (N := N) N 0 M F A h (by omega) (by omega)).imp ?_
  rintro r F' A' ⟨e1, K, e2, e3, e4⟩
  exact ⟨e1, K, e2, fun q hq => e3 q (by omega) hq⟩
theorem rf_cs2 : ∀ (m i : Nat) (M : Mem) (F : Nat → Int32) (A : Nat → Nat → Int32), MAt M F A → (∀ q, q < i → A 16 q = 0) → i ≤ 412 → 412 - i < m → RW M (fn_X10_clearState_2 N m M 389 (nI i)) (fun _ F' A' => F' = F ∧ ∃ S, A' = va_up A 16 S ∧ S 2 = A 10 5 ∧ ∀ q, q < 412 → ¬ q = 2 → S q = 0) := by
  intro m
  induction m with
  | zero => intro i M F A _ _ _ h; omega
  | succ m ih =>
    intro i M F A h h0 hi hm
    rw [fn_X10_clearState_2.eq_2]
    by_cases q : i < 412
    · rw [if_neg (show ¬ (412 : Int32) ≤ nI i from nI_ge q (by decide)), h.g16, obs]
      refine RW.w16 h q fun M1 h1 => ?_
      rw [nI_1]
      refine (ih (i + 1) M1 F _ h1 (fun j hj => ?_) (by omega) (by omega)).imp ?_
      · show upd (A 16) i 0 j = 0
        by_cases z : j = i
        · rw [z, pk_us]
        · rw [pk_un z]
          exact h0 j (by omega)
      · rintro r F' A' ⟨rfl, S, rfl, k1, k2⟩
        exact ⟨rfl, S, bx_uu _ _ _ _, k1, k2⟩
    · have e : i = 412 := by omega
      subst e
      have a5 : mm_aI M 391 0 5 = some (A 10 5) := h.r10 (j := 5) (by decide)
      rw [if_pos (show (412 : Int32) ≤ nI 412 by decide), h.g16, obs, h.g10, obs, a5, obs]
      refine RW.w16 (j := 2) h (by decide) fun M1 h1 => ?_
      refine RW.ret h1 ⟨rfl, _, rfl, pk_us, fun j hj z => ?_⟩
      rw [pk_un z]
      exact h0 j hj
theorem rf_cs (hN : 2 ^ 15 ≤ N) {M : Mem} {F : Nat → Int32} {A : Nat → Nat → Int32} (h : MAt M F A) : RW M (fn_X10_clearState N M 389) (fun _ F' A' => F' = F ∧ ∃ S, A' = va_up A 16 S ∧ S 2 = A 10 5 ∧ ∀ q, q < 412 → ¬ q = 2 → S q = 0) := by
  unfold fn_X10_clearState
  exact rf_cs2 (N := N) N 0 M F A h (fun q hq => absurd hq (Nat.not_lt_zero _)) (by omega) (by omega)
/-- what a good parse leaves in the reference -/
def Adp (F : Nat → Int32) (A : Nat → Nat → Int32) (F' : Nat → Int32) (A' : Nat → Nat → Int32) : Prop := F' = upd F 18 0 ∧ (∀ q, q < 6 → A' 10 q = A 11 q) ∧ (∀ q, q < 60 → A' 12 q = A 12 (60 + q)) ∧ (∀ q, q < 8 → A' 13 q = A 13 (8 + q)) ∧ (∀ q, q < 8 → A' 14 q = A 14 (8 + q)) ∧ A' 16 2 = A 11 5 ∧ (∀ q, q < 412 → ¬ q = 2 → A' 16 q = 0) ∧ A' 20 0 = 0 ∧ A' 20 1 = 0 ∧ A' 1 = A 1
theorem rf_p167 (hN : 2 ^ 15 ≤ N) : ∀ (m i : Nat) (M : Mem) (F : Nat → Int32) (A : Nat → Nat → Int32), MAt M F A → (∀ q, q < i → A 10 q = A 11 q) → i ≤ 6 → 6 - i < m → RW M (fn_X10_parse_167 N m M 389 (nI i)) (fun r F' A' => r = A 11 0 ∧ Adp F A F' A') := by
  intro m
  induction m with
  | zero => intro i M F A _ _ _ h; omega
  | succ m ih =>
    intro i M F A h h0 hi hm
    rw [fn_X10_parse_167.eq_2]
    by_cases q : i < 6
    · rw [if_neg (show ¬ (6 : Int32) ≤ nI i from nI_ge q (by decide)), h.g10, obs, h.g11, obs, h.r11 q, obs]
      refine RW.w10 h q fun M1 h1 => ?_
      rw [nI_1]
      refine (ih (i + 1) M1 F _ h1 (fun j hj => ?_) (by omega) (by omega)).imp ?_
      · show upd (A 10) i (A 11 i) j = A 11 j
        by_cases z : j = i
        · rw [z, pk_us]
        · rw [pk_un z]
          exact h0 j (by omega)
      · rintro r F' A' ⟨e1, e2, e3, e4, e5, e6, e7, e8, e9, e10, e11⟩
        exact ⟨e1, e2, e3, e4, e5, e6, e7, e8, e9, e10, e11⟩
    · have e : i = 6 := by omega
      subst e
      rw [if_pos (show (6 : Int32) ≤ nI 6 by decide), h.g12, obs]
      refine RW.call (rf_adopt12 hN h) ?_
      rintro r1 M1 F1 A1 h1 ⟨rfl, K1, rfl, k1⟩
      rw [h1.g13, obs]
      refine RW.call (rf_adopt13 hN h1) ?_
      rintro r2 M2 F2 A2 h2 ⟨rfl, K2, rfl, k2⟩
      rw [h2.g14, obs]
      refine RW.call (rf_adopt14 hN h2) ?_
      rintro r3 M3 F3 A3 h3 ⟨rfl, K3, rfl, k3⟩
      rw [h3.ck, obs]
      refine RW.call (rf_cs hN h3) ?_
      rintro r4 M4 F4 A4 h4 ⟨rfl, S, rfl, k4, k5⟩
      refine RW.pF h4 fun M5 h5 => ?_
      rw [h5.g20, obs, vp_nar0]
      refine RW.w20 (j := 0) h5 (by decide) fun M6 h6 => ?_
      rw [h6.g20, obs]
      refine RW.w20 (j := 1) h6 (by decide) fun M7 h7 => ?_
      have a0 : mm_aI M7 391 0 0 = some (A 10 0) := h7.r10 (j := 0) (by decide)
      rw [h7.g10, obs, a0, obs]
      refine RW.ret h7 ⟨h0 0 (by omega), rfl, h0, k1, k2, k3, ?_, k5, rfl, rfl, rfl⟩
      exact k4.trans (h0 5 (by omega))
end RY
theorem RelD.adp {F F' : Nat → Int32} {A A' : Nat → Nat → Int32} {κ : Cf} (h : RelD A κ) (w : WFK κ) (a : Adp F A F' A') : RelK (A' 10) (A' 12) (A' 13) (A' 14) κ := by
  obtain ⟨⟨d0, d1, d2, d3, d4, d5⟩, dk, df, db⟩ := h
  obtain ⟨w1, w2, w3, w4, w5, w6⟩ := w.1
  obtain ⟨-, b1, b2, b3, b4, -⟩ := a
  refine ⟨⟨(b1 0 (by omega)).trans d0, (b1 1 (by omega)).trans d1, (b1 2 (by omega)).trans d2, (b1 3 (by omega)).trans d3, (b1 4 (by omega)).trans d4, (b1 5 (by omega)).trans d5⟩, fun i hi r hr => ?_, fun i hi r hr => ?_, fun i hi => ?_⟩
  · rw [b2 _ (by omega)]
    exact dk i hi r hr
  · rw [b2 _ (by omega)]
    exact df i hi r hr
  · rw [b3 _ (by omega), b4 _ (by omega)]
    exact db i hi
theorem RelK.dft {A A' : Nat → Nat → Int32} {κ : Cf} (h : RelK (A 10) (A 12) (A 13) (A 14) κ) (w : WFK κ) (d : Dft A A') : RelK (A' 10) (A' 12) (A' 13) (A' 14) κ := by
  obtain ⟨h0, dk, df, db⟩ := h
  obtain ⟨w1, w2, w3, w4, w5, w6⟩ := w.1
  obtain ⟨b1, b2, b3, b4⟩ := d
  refine ⟨?_, fun i hi r hr => ?_, fun i hi r hr => ?_, fun i hi => ?_⟩
  · rw [b1 10 (by omega)]
    exact h0
  · rw [b2 _ (by omega)]
    exact dk i hi r hr
  · rw [b2 _ (by omega)]
    exact df i hi r hr
  · rw [b3 _ (by omega), b4 _ (by omega)]
    exact db i hi
/-- the bytes of the text as the parser reads them -/
def tbO (bf : List Int32) (n k : Nat) : Int32 := if k < n then bf.getD k 0 &&& 255 else -1
def kf0 : Cf := (fun i => if i = 0 then 4000 else if i = 1 then 5 else 100, fun _ => [])
/-- the empty machine of a configuration -/
def st0 (κ : Cf) : St := (fun i => if i = 2 then κ.1 2 else 0, fun r => if r = 2 then List.replicate (κ.2 10).length 0 else if r = 3 then List.replicate 4 0 else [])
def psI (bf : List Int32) (n : Nat) : Ps × Cf := plS (tbO bf n) n (n + 1) (0, 0, 0) kf0 (fun _ => 0)
abbrev Fs : Type := List Int32 × Cf × St × List St × (Nat → Option St)
def paI (s : Fs) (x : Int32) : Int32 × Fs := if x < 0 then (-1, s) else if x ≤ nI s.1.length then (if (psI s.1 x.toNatClampNeg).1.1 = 0 then (nI ((psI s.1 x.toNatClampNeg).2.2 0).length, [], (psI s.1 x.toNatClampNeg).2, st0 (psI s.1 x.toNatClampNeg).2, [], fun _ => none) else (-2 - nI (psI s.1 x.toNatClampNeg).1.1, [], s.2)) else (-1, s)
theorem getD_rep {n i : Nat} : (List.replicate n (0 : Int32)).getD i 0 = 0 := by
  rw [List.getD_eq_getElem?_getD, List.getElem?_replicate]
  split <;> rfl
theorem wfk0 : WFK kf0 := by
  refine ⟨⟨by decide, fun r _ => rfl, by decide, fun r _ => rfl, by decide, rfl⟩, fun i hi => absurd hi (Nat.not_lt_zero _), fun i hi => absurd hi (Nat.not_lt_zero _), fun i hi => absurd hi (Nat.not_lt_zero _), ⟨4000, by decide, by decide, rfl⟩, ⟨5, by decide, by decide, rfl⟩, ⟨100, by decide, by decide, rfl⟩⟩
theorem rs_st0 {S : Nat → Int32} {κ : Cf} (h2 : S 2 = κ.1 2) (h0 : ∀ q, q < 412 → ¬ q = 2 → S q = 0) (hl : (κ.2 10).length ≤ 8) : RelS S (st0 κ) := by
  have e0 : ∀ q, q < 412 → ¬ q = 2 → S q = nI 0 := h0
  refine ⟨⟨⟨h0 0 (by omega) (by omega), h0 1 (by omega) (by omega), h2, h0 5 (by omega) (by omega), h0 6 (by omega) (by omega)⟩, e0 3 (by omega) (by omega), e0 4 (by omega) (by omega), e0 7 (by omega) (by omega), e0 8 (by omega) (by omega), e0 9 (by omega) (by omega)⟩, ⟨Nat.zero_le _, Nat.zero_le _, ?_, rfl, Nat.zero_le _, Nat.zero_le _, rfl, rfl, Nat.zero_le _, rfl⟩, fun i hi => ?_, fun i hi => ?_, fun i hi => absurd hi (Nat.not_lt_zero _), fun i hi => absurd hi (Nat.not_lt_zero _), fun i hi => absurd hi (Nat.not_lt_zero _), fun i hi => absurd hi (Nat.not_lt_zero _), fun i hi => absurd hi (Nat.not_lt_zero _)⟩
  · show (List.replicate (κ.2 10).length (0 : Int32)).length ≤ 8
    rw [List.length_replicate]
    exact hl
  · show S (10 + i) = (List.replicate 4 (0 : Int32)).getD i 0
    rw [getD_rep]
    exact h0 _ (by omega) (by omega)
  · have hi' : i < (List.replicate (κ.2 10).length (0 : Int32)).length := hi
    rw [List.length_replicate] at hi'
    show S (14 + i) = (List.replicate (κ.2 10).length (0 : Int32)).getD i 0
    rw [getD_rep]
    exact h0 _ (by omega) (by omega)
theorem wf_st0 {κ : Cf} (w : WFK κ) : WFS κ (st0 κ) := by
  refine ⟨List.length_replicate, fun i hi => ?_, fun i hi => absurd hi (Nat.not_lt_zero _), fun i hi => absurd hi (Nat.not_lt_zero _), fun i hi => absurd hi (Nat.not_lt_zero _), fun i hi => absurd hi (Nat.not_lt_zero _), Or.inl rfl, w.2.2.2.2.2.2, ⟨0, 0, by omega, by omega, (show (0 : Int32) = nI 0 - nI 0 by decide)⟩, ⟨0, 0, by omega, by omega, (show (0 : Int32) = nI 0 - nI 0 by decide)⟩, fun i hi => absurd hi (Nat.not_lt_zero _), fun i hi => absurd hi (Nat.not_lt_zero _)⟩
  obtain ⟨-, z, z1, z2, z3⟩ := w.2.2.2.1 i hi
  refine ⟨0, z, ?_, z3, by omega, z2⟩
  show (List.replicate (κ.2 10).length (0 : Int32)).getD i 0 = nI 0
  rw [getD_rep]
  rfl
section RZ
variable {N : Nat} {M : Mem} {F : Nat → Int32} {A : Nat → Nat → Int32} {bf : List Int32} {κ : Cf} {σ : St} {U : List St} {sn : Nat → Option St}
theorem paI_no {s : Fs} {x : Int32} (g : ¬ (0 ≤ x ∧ x ≤ nI s.1.length)) : paI s x = (-1, s) := by
  unfold paI
  by_cases a : x < 0
  · rw [if_pos a]
  · rw [if_neg a, if_neg (fun z => g ⟨Int32.not_lt.mp a, z⟩)]
theorem paI_ok {s : Fs} {n : Nat} (hn : n ≤ s.1.length) (hl : s.1.length ≤ 800) (e : (psI s.1 n).1.1 = 0) : paI s (nI n) = (nI ((psI s.1 n).2.2 0).length, [], (psI s.1 n).2, st0 (psI s.1 n).2, [], fun _ => none) := by
  unfold paI
  rw [if_neg (nI_pos (by omega)), if_pos (nI_le hn (by omega)), nI_clamp (by omega), if_pos e]
theorem paI_er {s : Fs} {n : Nat} (hn : n ≤ s.1.length) (hl : s.1.length ≤ 800) (e : ¬ (psI s.1 n).1.1 = 0) : paI s (nI n) = (-2 - nI (psI s.1 n).1.1, [], s.2) := by
  unfold paI
  rw [if_neg (nI_pos (by omega)), if_pos (nI_le hn (by omega)), nI_clamp (by omega), if_neg e]
theorem tbO_TB {g : Nat → Int32} {n : Nat} (hg : ∀ i, i < bf.length → g i = bf.getD i 0) (hn : n ≤ bf.length) (hl : bf.length ≤ 800) : TB g (tbO bf n) n := by
  refine ⟨fun k hk => ?_, fun k hk => ?_, by omega⟩
  · unfold tbO
    rw [if_pos hk, hg k (by omega)]
  · unfold tbO
    rw [if_neg (by omega)]
theorem rf_parse (hN : 2 ^ 15 ≤ N) (h : MAt M F A) (k : Rel F A bf κ σ U sn) (w : WF κ σ U sn) (x : Int32) : RW M (fn_X10_parse N M 389 x) (fun r F' A' => r = (paI (bf, κ, σ, U, sn) x).1 ∧ Rel F' A' (paI (bf, κ, σ, U, sn) x).2.1 (paI (bf, κ, σ, U, sn) x).2.2.1 (paI (bf, κ, σ, U, sn) x).2.2.2.1 (paI (bf, κ, σ, U, sn) x).2.2.2.2.1 (paI (bf, κ, σ, U, sn) x).2.2.2.2.2 ∧ ((psI bf x.toNatClampNeg).1.1 = 0 → 0 ≤ x ∧ x ≤ nI bf.length → WFK (psI bf x.toNatClampNeg).2)) := by
  obtain ⟨⟨k1, k2, k3⟩, k4, k5, k6, k7⟩ := k
  unfold fn_X10_parse
  refine RW.pF h fun M1 h1 => ?_
  have e2 : upd F 0 0 2 = F 2 := rfl
  rw [h1.i2, obs, e2, k1, L0, ev_within, b2s]
  by_cases g : 0 ≤ x ∧ x ≤ nI bf.length
  · rw [if_pos g, if_neg (by decide)]
    obtain ⟨n, hn, rfl⟩ : ∃ n, n ≤ bf.length ∧ x = nI n := nI_of2 (nI_toInt (by omega)) (Int32.not_lt.mpr g.1) g.2
    refine RW.pF h1 fun M2 h2 => ?_
    refine RW.pF h2 fun M3 h3 => ?_
    refine RW.pF h3 fun M4 h4 => ?_
    refine RW.pF h4 fun M5 h5 => ?_
    refine RW.pF h5 fun M6 h6 => ?_
    rw [h6.g11, obs]
    refine RW.w11 (j := 0) h6 (by decide) fun M7 h7 => ?_
    rw [h7.g11, obs]
    refine RW.w11 (j := 1) h7 (by decide) fun M8 h8 => ?_
    rw [h8.g11, obs]
    refine RW.w11 (j := 2) h8 (by decide) fun M9 h9 => ?_
    rw [h9.g11, obs]
    refine RW.w11 (j := 3) h9 (by decide) fun M10 h10 => ?_
    rw [h10.g11, obs]
    refine RW.w11 (j := 4) h10 (by decide) fun M11 h11 => ?_
    rw [h11.g11, obs]
    refine RW.w11 (j := 5) h11 (by decide) fun M12 h12 => ?_
    rw [h12.ck, obs]
    have ht : TB (A 1) (tbO bf n) n := tbO_TB k3 hn k2
    refine RW.call (rf_nextTok (tb := tbO bf n) (n := n) (e := 0) hN h12 ht rfl rfl (by omega)) ?_
    rintro r M13 F13 A13 h13 ⟨rfl, t1, t2⟩
    have hp : RTP (tbO bf n) n F13 (0, 0, 0) := RTP.mk0 rfl ⟨t2.2.2.2.1, t1, Nat.zero_le _⟩
    have hz : ∀ {P : Prop} {i : Nat} {r : Nat}, i < (kf0.2 r).length → P := fun hi => absurd hi (Nat.not_lt_zero _)
    obtain ⟨M', F', A', s1, h', f', x1, x2, x3, x4⟩ := rf_p95 (tb := tbO bf n) (n := n) hN (n + 1) N (0, 0, 0) kf0 (fun _ => 0) M13 F13 _ h13 ht hp (fun _ => ⟨⟨⟨rfl, rfl, rfl, rfl, rfl, rfl⟩, fun i hi => hz hi, fun i hi => hz hi, fun i hi => hz hi⟩, ⟨t2.2.2.2.2.2.1, by decide, by decide, by decide⟩, wfk0, by show n + 1 - 0 ≤ n + 1; omega⟩) (by omega)
    rw [s1]
    refine RW.fr f' ?_
    have cl : (nI n).toNatClampNeg = n := nI_clamp (by omega)
    have q2 : F' 2 = nI 0 := x2.2.1.trans t2.2.1
    have q18 : F' 18 = F 18 := x2.2.2.2.trans t2.2.2.2.2.2.2
    unfold fn_X10_parse_142
    rw [h'.i8, obs]
    by_cases e0 : (psI bf n).1.1 = 0
    · obtain ⟨y1, y2⟩ := x4 e0
      rw [if_pos (x3.ok e0).1, paI_ok (s := (bf, κ, σ, U, sn)) hn k2 e0, cl]
      refine (rf_p167 (N := N) hN N 0 M' F' A' h' (fun q hq => absurd hq (Nat.not_lt_zero _)) (by omega) (by omega)).imp ?_
      rintro r2 F2 A2 ⟨z1, z2⟩
      have zk := y1.adp y2 z2
      obtain ⟨v1, v2, v3, v4, v5, v6, v7, v8, v9, v10⟩ := z2
      refine ⟨z1.trans y1.1.1, ⟨⟨by rw [v1]; exact q2, Nat.zero_le _, fun i hi => absurd hi (Nat.not_lt_zero _)⟩, zk, rs_st0 (v6.trans y1.1.2.2.2.2.2) v7 y2.1.2.2.2.2.1, ⟨by rw [v1]; rfl, Nat.zero_le _, fun i hi => absurd hi (Nat.not_lt_zero _)⟩, fun j hj => Or.inl ⟨?_, rfl⟩⟩, fun _ _ => y2⟩
      rcases (show j = 0 ∨ j = 1 by omega) with rfl | rfl
      · exact v8
      · exact v9
    · obtain ⟨y1, y2⟩ := x3.er e0
      rw [if_neg y1, h'.i9, obs, obs, y2, paI_er (s := (bf, κ, σ, U, sn)) hn k2 e0, cl]
      have b10 : ∀ j, ¬ (j = 11 ∨ j = 12 ∨ j = 13 ∨ j = 14) → A' j = A j := fun j hj => by
        rw [x1.1 j hj]
        have hj2 : j ≠ 11 := by omega
        simp only [va_up_ne _ _ hj2]
      refine RW.ret h' ⟨rfl, ⟨⟨q2, Nat.zero_le _, fun i hi => absurd hi (Nat.not_lt_zero _)⟩, RelK.dft k4 w.1 ⟨b10, fun q hq => x1.2.1 q hq, fun q hq => x1.2.2.1 q hq, fun q hq => x1.2.2.2 q hq⟩, ?_, ?_, ?_⟩, fun z => absurd z e0⟩
      · show RelS (A' 16) σ
        rw [b10 16 (by omega)]
        exact k5
      · show F' 18 = nI U.length ∧ U.length ≤ 12 ∧ ∀ i, i < U.length → ∃ u, U[i]? = some u ∧ RelS (fun k => A' 17 (412 * (U.length - 1 - i) + k)) u
        rw [b10 17 (by omega), q18]
        exact k6
      · show ∀ j, j < 2 → (A' 20 j = 0 ∧ sn j = none) ∨ (A' 20 j = 1 ∧ ∃ t, sn j = some t ∧ RelS (fun k => A' 19 (412 * j + k)) t)
        rw [b10 19 (by omega), b10 20 (by omega)]
        exact k7
  · rw [if_neg g, if_pos rfl, paI_no (s := (bf, κ, σ, U, sn)) g]
    exact RW.ret h1 ⟨rfl, ⟨⟨k1, k2, k3⟩, k4, k5, k6, k7⟩, fun _ z => absurd z g⟩
end RZ
