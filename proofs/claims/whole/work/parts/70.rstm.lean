/-! PURE: the reference's statements -/
def RTE (F : Nat → Int32) (er : Nat) : Prop := ¬ F 8 = 0 ∧ 8 * F 9 + F 8 = nI er
/-- the reference where the parser's state is p: no error, at the token behind p's end; or the error -/
def RTP (tb : Nat → Int32) (n : Nat) (F : Nat → Int32) (p : Ps) : Prop := (p.1 = 0 → F 8 = 0 ∧ RTk tb n F p.2.2 ∧ p.2.2 ≤ n) ∧ (¬ p.1 = 0 → RTE F p.1)
def Kq (F F' : Nat → Int32) : Prop := F' 0 = F 0 ∧ F' 2 = F 2 ∧ F' 3 = F 3 ∧ F' 15 = F 15 ∧ F' 18 = F 18
theorem Kq.tr {F F' F'' : Nat → Int32} (h : Kq F F') (g : Kq F' F'') : Kq F F'' := by
  obtain ⟨h1, h2, h3, h4, h5⟩ := h
  obtain ⟨g1, g2, g3, g4, g5⟩ := g
  exact ⟨g1.trans h1, g2.trans h2, g3.trans h3, g4.trans h4, g5.trans h5⟩
theorem Kq.rf {F : Nat → Int32} : Kq F F := ⟨rfl, rfl, rfl, rfl, rfl⟩
theorem Kp.kq {F F' : Nat → Int32} (h : Kp F F') : Kq F F' := ⟨h.1, h.2.1, h.2.2.1, h.2.2.2.2.2.1, h.2.2.2.2.2.2⟩
theorem RTP.ok {tb : Nat → Int32} {n : Nat} {F : Nat → Int32} {p : Ps} (h : RTP tb n F p) (h0 : p.1 = 0) : F 8 = 0 ∧ RTk tb n F p.2.2 ∧ p.2.2 ≤ n := h.1 h0
theorem RTP.er {tb : Nat → Int32} {n : Nat} {F : Nat → Int32} {p : Ps} (h : RTP tb n F p) (h0 : ¬ p.1 = 0) : RTE F p.1 := h.2 h0
theorem RTP.mk0 {tb : Nat → Int32} {n : Nat} {F : Nat → Int32} {p : Ps} (h0 : p.1 = 0) (h : F 8 = 0 ∧ RTk tb n F p.2.2 ∧ p.2.2 ≤ n) : RTP tb n F p := ⟨fun _ => h, fun z => absurd h0 z⟩
theorem RTP.mkE {tb : Nat → Int32} {n : Nat} {F : Nat → Int32} {p : Ps} (h0 : ¬ p.1 = 0) (h : RTE F p.1) : RTP tb n F p := ⟨fun z => absurd z h0, fun _ => h⟩
theorem rfK_2 {k : Int32} (h : ¬ k = 3) : ¬ rfK k = 2 := by
  unfold rfK
  rw [if_neg h]
  split
  · decide
  · split
    · decide
    · split <;> decide
theorem rfK_59 {k : Int32} (h : ¬ k = 4) : ¬ rfK k = 59 := by
  unfold rfK
  rw [if_neg h]
  split
  · decide
  · split
    · decide
    · split <;> decide
theorem rfK_0 {k : Int32} (h : ¬ k = 0) : ¬ rfK k = 0 := by
  unfold rfK
  rw [if_neg h]
  split
  · decide
  · split
    · decide
    · split <;> decide
theorem rfK_1 {k : Int32} (h : ¬ k = 2) : ¬ rfK k = 1 := by
  unfold rfK
  rw [if_neg h]
  split
  · decide
  · split
    · decide
    · split <;> decide
theorem va_self12 {A : Nat → Nat → Int32} : va_up A 12 (A 12) = A := by
  funext j
  unfold va_up
  split
  · rename_i e; rw [e]
  · rfl
theorem rte_mk {F : Nat → Int32} {s k : Nat} {x : Int32} (h4 : F 4 = nI s) (hx : x = nI k) (hk : 1 ≤ k) (hk2 : k ≤ 4) : RTE (upd (upd F 8 x) 9 (F 4)) (8 * s + k) := by
  subst hx
  refine ⟨?_, ?_⟩
  · show ¬ nI k = 0
    exact nI_ne0 (by omega) (by omega)
  · show 8 * F 4 + nI k = nI (8 * s + k)
    rw [h4, show (8 : Int32) = nI 8 from rfl, pk_mul, nI_add]
section RU
variable {N : Nat} {M : Mem} {F : Nat → Int32} {A : Nat → Nat → Int32} {tb : Nat → Int32} {n : Nat} {p : Ps} {κ : Cf} {fl : Nat → Nat}
theorem rf_must_ok (h : MAt M F A) (h8 : F 8 = 0) {x k : Int32} (hx : ¬ x = 0) : fn_X10_must N M 389 x k = some (1, M) := by
  unfold fn_X10_must fn_X10_must_24
  rw [h.i8, obs, h8, if_pos rfl, if_neg hx, obs, if_pos rfl]
theorem rf_must_was (h : MAt M F A) (h8 : ¬ F 8 = 0) {x k : Int32} : fn_X10_must N M 389 x k = some (0, M) := by
  unfold fn_X10_must fn_X10_must_24
  rw [h.i8, obs, if_neg h8, obs, if_neg h8]
theorem rf_must_err (h : MAt M F A) (h8 : F 8 = 0) {k : Int32} (hk : ¬ k = 0) : RW M (fn_X10_must N M 389 0 k) (fun r F' A' => r = 0 ∧ F' = upd (upd F 8 k) 9 (F 4) ∧ A' = A) := by
  unfold fn_X10_must
  rw [h.i8, obs, h8, if_pos rfl, if_pos rfl]
  refine RW.pF h fun M1 h1 => ?_
  have e4 : upd F 8 k 4 = F 4 := rfl
  rw [h1.i4, obs, e4]
  refine RW.pF h1 fun M2 h2 => ?_
  unfold fn_X10_must_24
  have e8 : upd (upd F 8 k) 9 (F 4) 8 = k := rfl
  rw [h2.i8, obs, e8, if_neg hk]
  exact RW.ret h2 ⟨rfl, rfl, rfl⟩
theorem rf_num (hN : 2 ^ 15 ≤ N) (h : MAt M F A) (ht : TB (A 1) tb n) (hp : RTP tb n F p) (h0 : p.1 = 0) (lo hi : Int32) : RW M (fn_X10_number N M 389 lo hi) (fun r F' A' => A' = A ∧ Kq F F' ∧ RTP tb n F' (rdN tb n p lo hi).1 ∧ ((rdN tb n p lo hi).1.1 = 0 → r = (rdN tb n p lo hi).2)) := by
  obtain ⟨h8, hk, he⟩ := hp.ok h0
  obtain ⟨k1, k2, k3, k4, k5⟩ := hk
  have eN : rdN tb n p lo hi = ((rdE tb n p.2.2 lo hi, tkS tb n p.2.2, tkE tb n p.2.2), rdV tb n p.2.2) := by
    unfold rdN
    rw [if_pos h0]
  rw [eN]
  unfold fn_X10_number
  rw [h.i6, obs, k4]
  by_cases q3 : tkK tb n p.2.2 = 3
  · rw [q3, if_pos (show rfK 3 = 2 by decide)]
    unfold fn_X10_number_14
    rw [h.ck, obs, rf_must_ok h h8 (by decide), b2s, if_neg (by decide), h.i7, obs, k5 q3, ev_within, b2s, h.ck, obs]
    by_cases v : lo ≤ rdV tb n p.2.2 ∧ rdV tb n p.2.2 ≤ hi
    · have e0 : rdE tb n p.2.2 lo hi = 0 := by
        unfold rdE
        rw [if_pos q3, if_neg (Int32.not_lt.mpr v.1), if_pos v.2]
      have hE := tk_nz ht.2.1 he q3 (by decide)
      rw [if_pos v, rf_must_ok h h8 (by decide), b2s, if_neg (by decide), h.i7, obs, k5 q3, h.ck, obs]
      refine RW.call (rf_nextTok hN h ht k1 (k3 (by rw [q3]; decide)) hE.2) ?_
      rintro r M1 F1 A1 h1 ⟨rfl, t1, t2⟩
      refine RW.ret h1 ⟨rfl, t2.kq, RTP.mk0 e0 ⟨t2.2.2.2.1.trans h8, t1, hE.2⟩, fun _ => rfl⟩
    · have e2 : rdE tb n p.2.2 lo hi = 8 * tkS tb n p.2.2 + 2 := by
        unfold rdE
        rw [if_pos q3]
        by_cases v1 : rdV tb n p.2.2 < lo
        · rw [if_pos v1]
        · rw [if_neg v1, if_neg (fun z => v ⟨Int32.not_lt.mp v1, z⟩)]
      rw [if_neg v]
      refine RW.call (rf_must_err h h8 (k := 2) (by decide)) ?_
      rintro r M1 F1 A1 h1 ⟨rfl, rfl, rfl⟩
      rw [if_pos rfl]
      have hne : ¬ rdE tb n p.2.2 lo hi = 0 := by omega
      refine RW.ret h1 ⟨rfl, ⟨rfl, rfl, rfl, rfl, rfl⟩, RTP.mkE hne ?_, fun z => absurd z hne⟩
      show RTE _ (rdE tb n p.2.2 lo hi)
      rw [e2]
      exact rte_mk (k := 2) k2 rfl (by omega) (by omega)
  · rw [if_neg (rfK_2 q3)]
    unfold fn_X10_number_14
    rw [h.ck, obs]
    refine RW.call (rf_must_err h h8 (k := 1) (by decide)) ?_
    rintro r M1 F1 A1 h1 ⟨rfl, rfl, rfl⟩
    rw [if_pos rfl]
    have e1 : rdE tb n p.2.2 lo hi = 8 * tkS tb n p.2.2 + 1 := by
      unfold rdE
      rw [if_neg q3]
    have hne : ¬ rdE tb n p.2.2 lo hi = 0 := by omega
    refine RW.ret h1 ⟨rfl, ⟨rfl, rfl, rfl, rfl, rfl⟩, RTP.mkE hne ?_, fun z => absurd z hne⟩
    show RTE _ (rdE tb n p.2.2 lo hi)
    rw [e1]
    exact rte_mk (k := 1) k2 rfl (by omega) (by omega)
/-- a step of a kind's reading: if there is no error, a number goes to at + i -/
theorem rf_kst (hN : 2 ^ 15 ≤ N) (h : MAt M F A) (ht : TB (A 1) tb n) (hp : RTP tb n F p) {at' i : Nat} (hat : at' + i < 120) (lo hi : Int32) {g : Mem → Option (Unit × Mem)} {Q : Unit → (Nat → Int32) → (Nat → Nat → Int32) → Prop} (k : ∀ M' F' K, MAt M' F' (va_up A 12 K) → Kq F F' → RTP tb n F' (rdN tb n p lo hi).1 → (∀ q, ¬ q = at' + i → K q = A 12 q) → ((rdN tb n p lo hi).1.1 = 0 → K (at' + i) = (rdN tb n p lo hi).2) → RW M' (g M') Q) : RW M (if F 8 = 0 then (mm_gR M 389 10 12).bind fun b2 => (mm_ck M 389 10).bind fun _ => mm_b2 (fn_X10_number N M 389 lo hi) fun v4 M3 => (mm_sI M3 b2 0 (nI (at' + i)) v4).bind fun M5 => g M5 else g M) Q := by
  by_cases h0 : p.1 = 0
  · obtain ⟨h8, -, -⟩ := hp.ok h0
    rw [if_pos h8, h.g12, obs, h.ck, obs]
    refine RW.call (rf_num hN h ht hp h0 lo hi) ?_
    rintro r M1 F1 A1 h1 ⟨rfl, t1, t2, t3⟩
    refine RW.w12 h1 hat fun M2 h2 => ?_
    exact k M2 F1 _ h2 t1 t2 (fun q hq => pk_un hq) (fun z => by rw [pk_us]; exact t3 z)
  · obtain ⟨e1, -⟩ := hp.er h0
    have eN := rdN_er (tb := tb) (n := n) (lo := lo) (hi := hi) h0
    rw [if_neg e1]
    rw [eN] at k
    exact k M F (A 12) (by rw [va_self12]; exact h) Kq.rf hp (fun q _ => rfl) (fun z => absurd z h0)
/-- the last four numbers of a kind, from the second on -/
theorem rf_k34 (hN : 2 ^ 15 ≤ N) (h : MAt M F A) (ht : TB (A 1) tb n) (hp : RTP tb n F p) {at' : Nat} (hat : at' + 5 ≤ 120) (v0 : Int32) : RW M (fn_X10_readKind_34 N M 389 (nI at') v0 (nI at') 393) (fun _ F' A' => Kq F F' ∧ RTP tb n F' (rdN tb n (rdN tb n (rdN tb n (rdN tb n p 1000 4000).1 1 200).1 0 9999).1 1 500).1 ∧ ∃ K, A' = va_up A 12 K ∧ (∀ q, ¬ (at' ≤ q ∧ q < at' + 5) → K q = A 12 q) ∧ ((rdN tb n (rdN tb n (rdN tb n (rdN tb n p 1000 4000).1 1 200).1 0 9999).1 1 500).1.1 = 0 → K at' = v0 ∧ K (at' + 1) = (rdN tb n p 1000 4000).2 ∧ K (at' + 2) = (rdN tb n (rdN tb n p 1000 4000).1 1 200).2 ∧ K (at' + 3) = (rdN tb n (rdN tb n (rdN tb n p 1000 4000).1 1 200).1 0 9999).2 ∧ K (at' + 4) = (rdN tb n (rdN tb n (rdN tb n (rdN tb n p 1000 4000).1 1 200).1 0 9999).1 1 500).2)) := by
  unfold fn_X10_readKind_34
  refine RW.w12 h (by omega) fun M1 h1 => ?_
  rw [h1.i8, obs, show (1 : Int32) = nI 1 from rfl, nI_add]
  refine rf_kst (i := 1) hN h1 ht hp (by omega) 1000 4000 fun M2 F2 K2 h2 q2 r2 a2 b2 => ?_
  rw [bx_uu] at h2
  unfold fn_X10_readKind_60
  rw [h2.i8, obs, show (1 : Int32) = nI 1 from rfl, nI_add, nI_add, show at' + 1 + 1 = at' + 2 by omega]
  refine rf_kst (i := 2) hN h2 ht r2 (by omega) 1 200 fun M3 F3 K3 h3 q3 r3 a3 b3 => ?_
  rw [bx_uu] at h3
  unfold fn_X10_readKind_85
  rw [h3.i8, obs, show (3 : Int32) = nI 3 from rfl, nI_add]
  refine rf_kst (i := 3) hN h3 ht r3 (by omega) 0 9999 fun M4 F4 K4 h4 q4 r4 a4 b4 => ?_
  rw [bx_uu] at h4
  unfold fn_X10_readKind_108
  rw [h4.i8, obs, show (3 : Int32) = nI 3 from rfl, nI_add, show (1 : Int32) = nI 1 from rfl, nI_add, show at' + 3 + 1 = at' + 4 by omega]
  refine rf_kst (i := 4) (g := fun M5 => some ((), M5)) hN h4 ht r4 (by omega) 1 500 fun M5 F5 K5 h5 q5 r5 a5 b5 => ?_
  rw [bx_uu] at h5
  refine RW.ret h5 ⟨q2.tr (q3.tr (q4.tr q5)), r5, K5, rfl, fun q hq => ?_, fun z => ?_⟩
  · rw [a5 q (by omega), show va_up A 12 K4 12 = K4 from by simp [va_up], a4 q (by omega), show va_up A 12 K3 12 = K3 from by simp [va_up], a3 q (by omega), show va_up A 12 K2 12 = K2 from by simp [va_up], a2 q (by omega), show va_up A 12 (upd (A 12) at' v0) 12 = upd (A 12) at' v0 from by simp [va_up], pk_un (by omega)]
  · have z4 := (rdN_ok z).1
    have z3 := (rdN_ok z4).1
    have z2 := (rdN_ok z3).1
    have e4 : va_up A 12 K4 12 = K4 := by simp [va_up]
    have e3 : va_up A 12 K3 12 = K3 := by simp [va_up]
    have e2 : va_up A 12 K2 12 = K2 := by simp [va_up]
    have e1 : va_up A 12 (upd (A 12) at' v0) 12 = upd (A 12) at' v0 := by simp [va_up]
    refine ⟨?_, ?_, ?_, ?_, b5 z⟩
    · rw [a5 _ (by omega), e4, a4 _ (by omega), e3, a3 _ (by omega), e2, a2 _ (by omega), e1, pk_us]
    · rw [a5 _ (by omega), e4, a4 _ (by omega), e3, a3 _ (by omega), e2]
      exact b2 z2
    · rw [a5 _ (by omega), e4, a4 _ (by omega), e3]
      exact b3 z3
    · rw [a5 _ (by omega), e4]
      exact b4 z4
/-- a kind, behind its word -/
theorem rf_kind (hN : 2 ^ 15 ≤ N) (h : MAt M F A) (ht : TB (A 1) tb n) (h8 : F 8 = 0) {e : Nat} (he : e ≤ n) (hk : RTk tb n F e) (hk0 : ¬ tkK tb n e = 0) {ix : Nat} (hix : ix < 12) (hv : Bool) {y : Int32} (hy : y = if hv then 1 else 0) : RW M (fn_X10_readKind N M 389 (nI ix) y) (fun _ F' A' => Kq F F' ∧ RTP tb n F' (kq tb n hv (0, tkS tb n e, tkE tb n e) 4).1 ∧ ∃ K, A' = va_up A 12 K ∧ (∀ q, ¬ (60 + 5 * ix ≤ q ∧ q < 60 + 5 * ix + 5) → K q = A 12 q) ∧ ((kq tb n hv (0, tkS tb n e, tkE tb n e) 4).1.1 = 0 → K (60 + 5 * ix) = (kq tb n hv (0, tkS tb n e, tkE tb n e) 0).2 ∧ K (60 + 5 * ix + 1) = (kq tb n hv (0, tkS tb n e, tkE tb n e) 1).2 ∧ K (60 + 5 * ix + 2) = (kq tb n hv (0, tkS tb n e, tkE tb n e) 2).2 ∧ K (60 + 5 * ix + 3) = (kq tb n hv (0, tkS tb n e, tkE tb n e) 3).2 ∧ K (60 + 5 * ix + 4) = (kq tb n hv (0, tkS tb n e, tkE tb n e) 4).2)) := by
  have hE := tk_nz ht.2.1 he (c := tkK tb n e) rfl hk0
  unfold fn_X10_readKind
  rw [h.ck, obs]
  refine RW.call (rf_nextTok hN h ht hk.1 (hk.2.2.1 hk0) hE.2) ?_
  rintro r M1 F1 A1 h1 ⟨rfl, t1, t2⟩
  have hp1 : RTP tb n F1 (0, tkS tb n e, tkE tb n e) := RTP.mk0 rfl ⟨t2.2.2.2.1.trans h8, t1, hE.2⟩
  rw [h1.g12, obs, show (12 : Int32) = nI 12 from rfl, nI_add, show (5 : Int32) = nI 5 from rfl, pk_mul, show (0 : Int32) = nI 0 from rfl, nI_add, show 5 * (12 + ix) + 0 = 60 + 5 * ix by omega, show 5 * (12 + ix) = 60 + 5 * ix by omega, nI_0]
  cases hv with
  | false =>
    rw [if_pos (show y = 0 from hy)]
    refine (rf_k34 hN h1 ht hp1 (at' := 60 + 5 * ix) (by omega) 0).imp ?_
    rintro r F' A' ⟨z1, z2, z3⟩
    exact ⟨t2.kq.tr z1, z2, z3⟩
  | true =>
    have hy1 : y = 1 := hy
    rw [if_neg (by rw [hy1]; decide), h1.ck, obs]
    refine RW.call (rf_num hN h1 ht hp1 rfl 1 500) ?_
    rintro r M2 F2 A2 h2 ⟨rfl, u1, u2, u3⟩
    refine (rf_k34 hN h2 ht u2 (at' := 60 + 5 * ix) (by omega) r).imp ?_
    rintro r' F' A' ⟨z1, z2, K, z3, z4, z5⟩
    have e0 : kq tb n true (0, tkS tb n e, tkE tb n e) 0 = rdN tb n (0, tkS tb n e, tkE tb n e) 1 500 := rfl
    have e1 : kq tb n true (0, tkS tb n e, tkE tb n e) 1 = rdN tb n (kq tb n true (0, tkS tb n e, tkE tb n e) 0).1 1000 4000 := rfl
    have e2 : kq tb n true (0, tkS tb n e, tkE tb n e) 2 = rdN tb n (kq tb n true (0, tkS tb n e, tkE tb n e) 1).1 1 200 := rfl
    have e3 : kq tb n true (0, tkS tb n e, tkE tb n e) 3 = rdN tb n (kq tb n true (0, tkS tb n e, tkE tb n e) 2).1 0 9999 := rfl
    have e4 : kq tb n true (0, tkS tb n e, tkE tb n e) 4 = rdN tb n (kq tb n true (0, tkS tb n e, tkE tb n e) 3).1 1 500 := rfl
    rw [← e0] at z2 z5 u3
    rw [← e1] at z2 z5
    rw [← e2] at z2 z5
    rw [← e3] at z2 z5
    rw [← e4] at z2 z5
    refine ⟨t2.kq.tr (u1.tr z1), z2, K, z3, z4, fun z => ?_⟩
    obtain ⟨y1, y2⟩ := z5 z
    refine ⟨?_, y2⟩
    rw [y1]
    exact u3 (kq_ok (hv := true) (p := (0, tkS tb n e, tkE tb n e)) z).2.1
end RU
