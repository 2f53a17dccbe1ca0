/-! PURE: the reference's tokens -/
theorem tk35_form (x : Int32) : tk35 x = 3 ∨ tk35 x = 4 ∨ tk35 x = 5 := by
  unfold tk35 tk49
  split
  · split <;> simp
  · split
    · split <;> simp
    · simp
theorem i32c {a b : Int32} (h : a < b) (g : b ≤ a) : False := absurd h (Int32.not_lt.mpr g)
theorem tkO_1 (x : Int32) : tkO x = 1 ↔ (x = 32 ∨ x = 10) := by
  unfold tkO
  have t := tk35_form x
  by_cases h1 : x = -1
  · subst h1; decide
  · rw [if_neg h1]
    by_cases h2 : x = 32
    · rw [if_pos h2]; simp [h2]
    · rw [if_neg h2]
      by_cases h3 : x = 10
      · rw [if_pos h3]; simp [h3]
      · rw [if_neg h3]
        have e : ¬ tk35 x = 1 := by rcases t with z | z | z <;> rw [z] <;> decide
        constructor
        · intro z
          split at z
          · exact absurd z e
          · split at z
            · exact absurd z e
            · exact absurd z (by decide)
        · rintro (z | z)
          · exact absurd z h2
          · exact absurd z h3
theorem tkO_0 (x : Int32) : tkO x = 0 ↔ x = -1 := by
  unfold tkO
  have t := tk35_form x
  by_cases h1 : x = -1
  · rw [if_pos h1]; simp [h1]
  · rw [if_neg h1]
    have e : ¬ tk35 x = 0 := by rcases t with z | z | z <;> rw [z] <;> decide
    constructor
    · intro z
      split at z
      · exact absurd z (by decide)
      · split at z
        · exact absurd z (by decide)
        · split at z
          · exact absurd z e
          · split at z
            · exact absurd z e
            · exact absurd z (by decide)
    · intro z; exact absurd z h1
theorem tkO_2 (x : Int32) : tkO x = 2 ↔ (97 ≤ x ∧ x ≤ 122) := by
  unfold tkO
  have t := tk35_form x
  have e : ¬ tk35 x = 2 := by rcases t with z | z | z <;> rw [z] <;> decide
  by_cases h1 : x = -1
  · subst h1; decide
  · rw [if_neg h1]
    by_cases h2 : x = 32
    · subst h2; decide
    · rw [if_neg h2]
      by_cases h3 : x = 10
      · subst h3; decide
      · rw [if_neg h3]
        by_cases h4 : x < 97
        · rw [if_pos h4]
          exact ⟨fun z => absurd z e, fun z => (i32c h4 z.1).elim⟩
        · rw [if_neg h4]
          by_cases h5 : 122 < x
          · rw [if_pos h5]
            exact ⟨fun z => absurd z e, fun z => (i32c h5 z.2).elim⟩
          · rw [if_neg h5]
            exact ⟨fun _ => ⟨Int32.not_lt.mp h4, Int32.not_lt.mp h5⟩, fun _ => rfl⟩
theorem tk35_3 (x : Int32) : tk35 x = 3 ↔ (48 ≤ x ∧ x ≤ 57) := by
  unfold tk35
  have t : tk49 x = 4 ∨ tk49 x = 5 := by unfold tk49; split <;> simp
  have e : ¬ tk49 x = 3 := by rcases t with z | z <;> rw [z] <;> decide
  by_cases h1 : x < 48
  · rw [if_pos h1]
    exact ⟨fun z => absurd z e, fun z => (i32c h1 z.1).elim⟩
  · rw [if_neg h1]
    by_cases h2 : 57 < x
    · rw [if_pos h2]
      exact ⟨fun z => absurd z e, fun z => (i32c h2 z.2).elim⟩
    · rw [if_neg h2]
      exact ⟨fun _ => ⟨Int32.not_lt.mp h1, Int32.not_lt.mp h2⟩, fun _ => rfl⟩
theorem tkO_3 (x : Int32) : tkO x = 3 ↔ (48 ≤ x ∧ x ≤ 57) := by
  unfold tkO
  by_cases h1 : x = -1
  · subst h1; decide
  · rw [if_neg h1]
    by_cases h2 : x = 32
    · subst h2; decide
    · rw [if_neg h2]
      by_cases h3 : x = 10
      · subst h3; decide
      · rw [if_neg h3]
        by_cases h4 : x < 97
        · rw [if_pos h4]
          exact tk35_3 x
        · rw [if_neg h4]
          by_cases h5 : 122 < x
          · rw [if_pos h5]
            exact tk35_3 x
          · rw [if_neg h5]
            refine ⟨fun z => absurd z (by decide), fun z => ?_⟩
            have a := Int32.le_iff_toInt_le.mp z.2
            have b := Int32.le_iff_toInt_le.mp (Int32.not_lt.mp h4)
            rw [show (57 : Int32).toInt = 57 from rfl] at a
            rw [show (97 : Int32).toInt = 97 from rfl] at b
            omega
theorem tkO_4 (x : Int32) (h2 : ¬ tkO x = 2) (h3 : ¬ tkO x = 3) (h1 : ¬ tkO x = 1) (h0 : ¬ tkO x = 0) : tkO x = if x = 59 then 4 else 5 := by
  have e1 : ¬ x = -1 := fun z => h0 ((tkO_0 x).mpr z)
  have e2 : ¬ x = 32 := fun z => h1 ((tkO_1 x).mpr (Or.inl z))
  have e3 : ¬ x = 10 := fun z => h1 ((tkO_1 x).mpr (Or.inr z))
  have e35 : tk35 x = if x = 59 then 4 else 5 := by
    have q : ¬ tk35 x = 3 := fun z => h3 ((tkO_3 x).mpr ((tk35_3 x).mp z))
    unfold tk35 at q ⊢
    by_cases a : x < 48
    · rw [if_pos a]; rfl
    · rw [if_neg a] at q ⊢
      by_cases b : 57 < x
      · rw [if_pos b]; rfl
      · rw [if_neg b] at q
        exact absurd rfl q
  have n2 : ¬ (97 ≤ x ∧ x ≤ 122) := fun z => h2 ((tkO_2 x).mpr z)
  unfold tkO
  rw [if_neg e1, if_neg e2, if_neg e3, e35]
  by_cases h4 : x < 97
  · rw [if_pos h4]
  · rw [if_neg h4]
    by_cases h5 : 122 < x
    · rw [if_pos h5]
    · exact absurd ⟨Int32.not_lt.mp h4, Int32.not_lt.mp h5⟩ n2
theorem tk_cong {tb : Nat → Int32} {n e e' : Nat} (h : tkS tb n e = tkS tb n e') : tkC tb n e = tkC tb n e' ∧ tkE tb n e = tkE tb n e' ∧ tkK tb n e = tkK tb n e' ∧ rdV tb n e = rdV tb n e' := by
  have h1 : tkC tb n e = tkC tb n e' := by unfold tkC; rw [h]
  have h2 : tkE tb n e = tkE tb n e' := by unfold tkE; rw [h1, h]
  have h3 : tkK tb n e = tkK tb n e' := by unfold tkK; rw [h1, h2, h]
  exact ⟨h1, h2, h3, by unfold rdV; rw [h2, h]⟩
def rfK (k : Int32) : Int32 := if k = 2 then 1 else if k = 3 then 2 else if k = 4 then 59 else if k = 0 then 0 else 3
/-- the reference stands at the token behind e -/
def RTk (tb : Nat → Int32) (n : Nat) (F : Nat → Int32) (e : Nat) : Prop := F 3 = nI n ∧ F 4 = nI (tkS tb n e) ∧ (¬ tkK tb n e = 0 → F 5 = nI (tkE tb n e)) ∧ F 6 = rfK (tkK tb n e) ∧ (tkK tb n e = 3 → F 7 = rdV tb n e)
def Kp (F F' : Nat → Int32) : Prop := F' 0 = F 0 ∧ F' 2 = F 2 ∧ F' 3 = F 3 ∧ F' 8 = F 8 ∧ F' 9 = F 9 ∧ F' 15 = F 15 ∧ F' 18 = F 18
theorem Kp.tr {F F' F'' : Nat → Int32} (h : Kp F F') (g : Kp F' F'') : Kp F F'' := by
  obtain ⟨h1, h2, h3, h4, h5, h6, h7⟩ := h
  obtain ⟨g1, g2, g3, g4, g5, g6, g7⟩ := g
  exact ⟨g1.trans h1, g2.trans h2, g3.trans h3, g4.trans h4, g5.trans h5, g6.trans h6, g7.trans h7⟩
section RTx
variable {N : Nat} {M : Mem} {F : Nat → Int32} {A : Nat → Nat → Int32} {tb : Nat → Int32} {n : Nat}
theorem rf_byte (h : MAt M F A) (ht : TB (A 1) tb n) (h3 : F 3 = nI n) {k : Nat} (hk : k < 2 ^ 15) : fn_X10_byteAt N M 389 (nI k) = some (tb k, M) := by
  obtain ⟨t1, t2, t3⟩ := ht
  unfold fn_X10_byteAt
  rw [h.i3, obs, h3]
  by_cases q : k < n
  · rw [if_neg (nI_ge q (by omega)), h.g1, obs, h.r1 (by omega), obs, t1 k q]
  · rw [if_pos (nI_le (by omega) (by omega)), t2 k (by omega)]
theorem rf_t96 (ht : TB (A 1) tb n) {s : Nat} : ∀ (m k : Nat) (M : Mem) (F : Nat → Int32), MAt M F A → F 3 = nI n → F 4 = nI s → F 5 = nI k → s ≤ k → k ≤ n → n - k < m → RW M (fn_X10_nextToken_96 N m M 389) (fun _ F' A' => A' = A ∧ F' 4 = nI s ∧ F' 5 = nI (rn tb n 2 k) ∧ F' 6 = (if rn tb n 2 k - s ≤ 6 then 1 else 3) ∧ F' 7 = F 7 ∧ Kp F F') := by
  have h800 := ht.2.2
  intro m
  induction m with
  | zero => intro k M F _ _ _ _ _ _ h; omega
  | succ m ih =>
    intro k M F h h3 h4 h5 hs hk hm
    rw [fn_X10_nextToken_96.eq_2, h.i5, obs, h.ck, obs, h5, rf_byte h ht h3 (by omega), b2s, L97, L122, ev_within, b2s]
    have hc := tkO_2 (tb k)
    by_cases q : 97 ≤ tb k ∧ tb k ≤ 122
    · have hkn : k < n := by
        by_cases z : k < n
        · exact z
        · rw [ht.2.1 k (by omega)] at q
          exact absurd q (by decide)
      rw [if_pos q, if_neg (by decide), h.i5, obs, h5, nI_1]
      refine RW.pF h fun M1 h1 => ?_
      refine (ih (k + 1) M1 _ h1 h3 h4 rfl (by omega) (by omega) (by omega)).imp ?_
      rintro r F' A' ⟨e1, e2, e3, e4, e5, e6⟩
      rw [rn_lt hkn, if_pos (hc.mpr q)]
      exact ⟨e1, e2, e3, e4, e5, e6⟩
    · rw [if_neg q, if_pos rfl, h.i5, obs, h.i4, obs, h5]
      have er : rn tb n 2 k = k := by
        by_cases z : k < n
        · rw [rn_lt z, if_neg (fun y => q (hc.mp y))]
        · have : k = n := by omega
          rw [this, rn_n]
      rw [h4, pk_sub hs, er]
      have hl := nI_leI (a := k - s) (b := 6) (by omega) (by omega)
      by_cases z : k - s ≤ 6
      · rw [if_pos (show nI (k - s) ≤ 6 from hl.mpr z), if_pos z]
        refine RW.pF h fun M1 h1 => ?_
        exact RW.ret h1 ⟨rfl, h4, h5, rfl, rfl, rfl, rfl, rfl, rfl, rfl, rfl, rfl⟩
      · rw [if_neg (show ¬ nI (k - s) ≤ 6 from fun y => z (hl.mp y)), if_neg z]
        refine RW.pF h fun M1 h1 => ?_
        exact RW.ret h1 ⟨rfl, h4, h5, rfl, rfl, rfl, rfl, rfl, rfl, rfl, rfl, rfl⟩
theorem rf_t175 (ht : TB (A 1) tb n) {s : Nat} : ∀ (m k : Nat) (M : Mem) (F : Nat → Int32), MAt M F A → F 3 = nI n → F 4 = nI s → F 5 = nI k → F 7 = numI tb s (min (k - s) 4) → s ≤ k → k ≤ n → n - k < m → RW M (fn_X10_nextToken_175 N m M 389) (fun _ F' A' => A' = A ∧ F' 4 = nI s ∧ F' 5 = nI (rn tb n 3 k) ∧ F' 6 = (if rn tb n 3 k - s ≤ 4 then 2 else 3) ∧ F' 7 = numI tb s (min (rn tb n 3 k - s) 4) ∧ Kp F F') := by
  have h800 := ht.2.2
  intro m
  induction m with
  | zero => intro k M F _ _ _ _ _ _ _ h; omega
  | succ m ih =>
    intro k M F h h3 h4 h5 h7 hs hk hm
    rw [fn_X10_nextToken_175.eq_2, h.i5, obs, h.ck, obs, h5, rf_byte h ht h3 (by omega), b2s, L48, L57, ev_within, b2s]
    have hc := tkO_3 (tb k)
    by_cases q : 48 ≤ tb k ∧ tb k ≤ 57
    · have hkn : k < n := by
        by_cases z : k < n
        · exact z
        · rw [ht.2.1 k (by omega)] at q
          exact absurd q (by decide)
      rw [if_pos q, if_neg (by decide), h.i5, obs, h.i4, obs, h5, h4, pk_sub hs]
      have hl := nI_leI (a := 4) (b := k - s) (by omega) (by omega)
      have step : ∀ v, v = numI tb s (min (k + 1 - s) 4) → RW M (fn_X10_nextToken_236 N (fn_X10_nextToken_175 N m) M 389 v 389) (fun _ F' A' => A' = A ∧ F' 4 = nI s ∧ F' 5 = nI (rn tb n 3 k) ∧ F' 6 = (if rn tb n 3 k - s ≤ 4 then 2 else 3) ∧ F' 7 = numI tb s (min (rn tb n 3 k - s) 4) ∧ Kp F F') := by
        intro v hv
        unfold fn_X10_nextToken_236
        refine RW.pF h fun M1 h1 => ?_
        have e5 : upd F 7 v 5 = nI k := h5
        rw [h1.i5, obs, e5, nI_1]
        refine RW.pF h1 fun M2 h2 => ?_
        refine (ih (k + 1) M2 _ h2 h3 h4 rfl hv (by omega) (by omega) (by omega)).imp ?_
        rintro r F' A' ⟨e1, e2, e3, e4, e6, e7⟩
        rw [rn_lt hkn, if_pos (hc.mpr q)]
        exact ⟨e1, e2, e3, e4, e6, e7⟩
      by_cases z : 4 ≤ k - s
      · rw [if_pos (show 4 ≤ nI (k - s) from hl.mpr z), h.i7, obs, h7]
        exact step _ (by rw [show min (k + 1 - s) 4 = min (k - s) 4 by omega])
      · rw [if_neg (show ¬ 4 ≤ nI (k - s) from fun y => z (hl.mp y)), h.i7, obs, obs, h.ck, obs, rf_byte h ht h3 (by omega), b2s, h7]
        refine step _ ?_
        rw [show min (k + 1 - s) 4 = min (k - s) 4 + 1 by omega, numI, show s + min (k - s) 4 = k by omega]
    · rw [if_neg q, if_pos rfl, h.i5, obs, h.i4, obs, h5]
      have er : rn tb n 3 k = k := by
        by_cases z : k < n
        · rw [rn_lt z, if_neg (fun y => q (hc.mp y))]
        · have : k = n := by omega
          rw [this, rn_n]
      rw [h4, pk_sub hs, er]
      have hl := nI_leI (a := k - s) (b := 4) (by omega) (by omega)
      by_cases z : k - s ≤ 4
      · rw [if_pos (show nI (k - s) ≤ 4 from hl.mpr z), if_pos z]
        refine RW.pF h fun M1 h1 => ?_
        exact RW.ret h1 ⟨rfl, h4, h5, rfl, h7, rfl, rfl, rfl, rfl, rfl, rfl, rfl⟩
      · rw [if_neg (show ¬ nI (k - s) ≤ 4 from fun y => z (hl.mp y)), if_neg z]
        refine RW.pF h fun M1 h1 => ?_
        exact RW.ret h1 ⟨rfl, h4, h5, rfl, h7, rfl, rfl, rfl, rfl, rfl, rfl, rfl⟩
theorem rf_t8 (hN : 2 ^ 15 ≤ N) (ht : TB (A 1) tb n) : ∀ (m e : Nat) (M : Mem) (F : Nat → Int32), MAt M F A → F 3 = nI n → F 4 = nI e → e ≤ n → n - e < m → RW M (fn_X10_nextToken_8 N m M 389) (fun _ F' A' => A' = A ∧ RTk tb n F' e ∧ Kp F F') := by
  have h800 := ht.2.2
  intro m
  induction m with
  | zero => intro e M F _ _ _ _ h; omega
  | succ m ih =>
    intro e M F h h3 h4 he hm
    rw [fn_X10_nextToken_8.eq_2, h.i4, obs, h.ck, obs, h4, rf_byte h ht h3 (by omega), b2s]
    have skip : (tb e = 32 ∨ tb e = 10) → RW M (fn_X10_nextToken_34 N (fn_X10_nextToken_8 N m) M 389) (fun _ F' A' => A' = A ∧ RTk tb n F' e ∧ Kp F F') := by
      intro q
      have hen : e < n := by
        by_cases z : e < n
        · exact z
        · rw [ht.2.1 e (by omega)] at q
          exact absurd q (by decide)
      unfold fn_X10_nextToken_34
      rw [h.i4, obs, h4, nI_1]
      refine RW.pF h fun M1 h1 => ?_
      refine (ih (e + 1) M1 _ h1 h3 rfl (by omega) (by omega)).imp ?_
      rintro r F' A' ⟨e1, e2, e3⟩
      have hS : tkS tb n e = tkS tb n (e + 1) := by
        unfold tkS
        rw [rn_lt hen, if_pos ((tkO_1 _).mpr q)]
      obtain ⟨c1, c2, c3, c4⟩ := tk_cong hS
      refine ⟨e1, ?_, e3⟩
      unfold RTk
      rw [hS, c2, c3, c4]
      exact e2
    by_cases q1 : tb e = 32
    · rw [if_pos q1]
      exact skip (Or.inl q1)
    · rw [if_neg q1, h.i4, obs, h.ck, obs, h4, rf_byte h ht h3 (by omega), b2s]
      by_cases q2 : tb e = 10
      · rw [if_pos q2]
        exact skip (Or.inr q2)
      · rw [if_neg q2, h.i4, obs, h.ck, obs, h4, rf_byte h ht h3 (by omega), b2s, h.i4, obs, h4]
        have n1 : ¬ tkO (tb e) = 1 := fun z => by
          rcases (tkO_1 _).mp z with y | y
          · exact q1 y
          · exact q2 y
        have hS : tkS tb n e = e := by
          unfold tkS
          by_cases z : e < n
          · rw [rn_lt z, if_neg n1]
          · have : e = n := by omega
            rw [this, rn_n]
        have hC : tkC tb n e = tkO (tb e) := by unfold tkC; rw [hS]
        refine RW.pF h fun M1 h1 => ?_
        refine RW.pF h1 fun M2 h2 => ?_
        by_cases q3 : tb e = -1
        · have c0 : tkC tb n e = 0 := by rw [hC]; exact (tkO_0 _).mpr q3
          have k0 : tkK tb n e = 0 := by
            unfold tkK
            rw [if_neg (by rw [c0]; decide), if_neg (by rw [c0]; decide), c0]
          rw [if_pos q3]
          refine RW.pF h2 fun M3 h3' => ?_
          refine RW.ret h3' ⟨rfl, ⟨h3, by rw [hS]; exact h4, fun z => absurd k0 z, by rw [k0]; rfl, fun z => by rw [k0] at z; exact absurd z (by decide)⟩, rfl, rfl, rfl, rfl, rfl, rfl, rfl⟩
        · rw [if_neg q3, L97, L122, ev_within, b2s]
          have n0 : ¬ tkO (tb e) = 0 := fun z => q3 ((tkO_0 _).mp z)
          by_cases q4 : 97 ≤ tb e ∧ tb e ≤ 122
          · have c2 : tkC tb n e = 2 := by rw [hC]; exact (tkO_2 _).mpr q4
            have hE : tkE tb n e = rn tb n 2 e := by unfold tkE; rw [if_pos c2, hS]
            have hK : tkK tb n e = if rn tb n 2 e - e ≤ 6 then 2 else 5 := by unfold tkK; rw [if_pos c2, hE, hS]
            rw [if_pos q4, if_neg (by decide)]
            refine (rf_t96 (N := N) ht (s := e) N e M2 _ h2 h3 h4 rfl (Nat.le_refl _) he (by omega)).imp ?_
            rintro r F' A' ⟨e1, e2, e3, e4, e5, e6⟩
            refine ⟨e1, ⟨e6.2.2.1.trans h3, by rw [hS]; exact e2, fun _ => by rw [hE]; exact e3, ?_, fun z => ?_⟩, e6⟩
            · rw [e4, hK]
              by_cases y : rn tb n 2 e - e ≤ 6
              · rw [if_pos y, if_pos y]; rfl
              · rw [if_neg y, if_neg y]; rfl
            · rw [hK] at z
              split at z <;> exact absurd z (by decide)
          · rw [if_neg q4, if_pos rfl, L48, L57, ev_within, b2s]
            have n2 : ¬ tkO (tb e) = 2 := fun z => q4 ((tkO_2 _).mp z)
            by_cases q5 : 48 ≤ tb e ∧ tb e ≤ 57
            · have c3 : tkC tb n e = 3 := by rw [hC]; exact (tkO_3 _).mpr q5
              have hE : tkE tb n e = rn tb n 3 e := by unfold tkE; rw [if_neg (by rw [c3]; decide), if_pos c3, hS]
              have hK : tkK tb n e = if rn tb n 3 e - e ≤ 4 then 3 else 5 := by unfold tkK; rw [if_neg (by rw [c3]; decide), if_pos c3, hE, hS]
              rw [if_pos q5, if_neg (by decide)]
              refine RW.pF h2 fun M3 h3' => ?_
              refine (rf_t175 (N := N) ht (s := e) N e M3 _ h3' h3 h4 rfl (by rw [show min (e - e) 4 = 0 by omega]; rfl) (Nat.le_refl _) he (by omega)).imp ?_
              rintro r F' A' ⟨e1, e2, e3, e4, e5, e6⟩
              refine ⟨e1, ⟨e6.2.2.1.trans h3, by rw [hS]; exact e2, fun _ => by rw [hE]; exact e3, ?_, fun z => ?_⟩, e6⟩
              · rw [e4, hK]
                by_cases y : rn tb n 3 e - e ≤ 4
                · rw [if_pos y, if_pos y]; rfl
                · rw [if_neg y, if_neg y]; rfl
              · rw [hK] at z
                by_cases y : rn tb n 3 e - e ≤ 4
                · unfold rdV
                  rw [e5, hE, hS, show min (rn tb n 3 e - e) 4 = rn tb n 3 e - e by omega]
                · rw [if_neg y] at z
                  exact absurd z (by decide)
            · rw [if_neg q5, if_pos rfl]
              have n3 : ¬ tkO (tb e) = 3 := fun z => q5 ((tkO_3 _).mp z)
              have hO := tkO_4 (tb e) n2 n3 n1 n0
              have hE : tkE tb n e = e + 1 := by unfold tkE; rw [if_neg (by rw [hC]; exact n2), if_neg (by rw [hC]; exact n3), hS]
              have hK : tkK tb n e = if tb e = 59 then 4 else 5 := by unfold tkK; rw [if_neg (by rw [hC]; exact n2), if_neg (by rw [hC]; exact n3), hC, hO]
              have e5 : upd (upd F 5 (nI e)) 6 3 5 = nI e := rfl
              rw [h2.i5, obs, e5, nI_1]
              refine RW.pF h2 fun M3 h3' => ?_
              by_cases q6 : tb e = 59
              · rw [if_pos q6]
                rw [if_pos q6] at hK
                refine RW.pF h3' fun M4 h4' => ?_
                refine RW.ret h4' ⟨rfl, ⟨h3, by rw [hS]; exact h4, fun _ => by rw [hE]; rfl, by rw [hK]; exact q6, fun z => by rw [hK] at z; exact absurd z (by decide)⟩, rfl, rfl, rfl, rfl, rfl, rfl, rfl⟩
              · rw [if_neg q6]
                rw [if_neg q6] at hK
                refine RW.pF h3' fun M4 h4' => ?_
                refine RW.ret h4' ⟨rfl, ⟨h3, by rw [hS]; exact h4, fun _ => by rw [hE]; rfl, by rw [hK]; rfl, fun z => by rw [hK] at z; exact absurd z (by decide)⟩, rfl, rfl, rfl, rfl, rfl, rfl, rfl⟩
theorem rf_nextTok (hN : 2 ^ 15 ≤ N) (h : MAt M F A) (ht : TB (A 1) tb n) (h3 : F 3 = nI n) {e : Nat} (h5 : F 5 = nI e) (he : e ≤ n) : RW M (fn_X10_nextToken N M 389) (fun _ F' A' => A' = A ∧ RTk tb n F' e ∧ Kp F F') := by
  have h800 := ht.2.2
  unfold fn_X10_nextToken
  rw [h.i5, obs, h5]
  refine RW.pF h fun M1 h1 => ?_
  exact rf_t8 hN ht N e M1 (upd F 4 (nI e)) h1 h3 rfl he (by omega)
end RTx
