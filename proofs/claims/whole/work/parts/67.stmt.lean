/-! PURE: the class's statements -/
section STx
variable {N : Nat} {M : Mem} {gb tb : Nat → Int32} {sp n : Nat} {G : Nat → Int32} {κ : Cf} {p : Ps} {fl : Nat → Nat}
theorem ev_word28 (h : PAt M gb sp G κ) (ht : TB gb tb n) (h1 : G 1 = nI n) {s : Nat} (h3 : G 3 = nI s) (hs : s ≤ 900) {u : UInt32} {l : List Int32} (hw : WU u l) : ∀ (m i : Nat), i ≤ l.length → l.length - i < m → fn_X4_isWord_28 N m M 2 u (nI i) = some (if wdA tb (s + i) (l.drop i) then 1 else 0, M) := by
  obtain ⟨w1, w2, w3, w4⟩ := hw
  intro m
  induction m with
  | zero => intro i _ h; omega
  | succ m ih =>
    intro i hi hm
    rw [fn_X4_isWord_28.eq_2, w1, obs, w2, b2s]
    by_cases q : i = l.length
    · subst q
      rw [if_pos (Int32.le_refl _), List.drop_length]
      rfl
    · have hil : i < l.length := by omega
      rw [if_neg (nI_ge hil (by omega)), h.i3, obs, h.ck, obs, h3, nI_add, ev_byte h ht h1 (by omega), b2s, obs, w3 N M i hil, b2s, nI_1, ih (i + 1) (by omega) (by omega), List.drop_eq_getElem_cons hil, wdA]
      have e : l.getD i 0 = l[i] := by simp [List.getD_eq_getElem?_getD, hil]
      rw [e, show s + (i + 1) = s + i + 1 by omega]
      by_cases z : tb (s + i) = l[i]
      · rw [if_pos z, if_pos z]
      · rw [if_neg z, if_neg z]
        rfl
theorem ev_isWord (hN : 2 ^ 15 ≤ N) (h : PAt M gb sp G κ) (ht : TB gb tb n) (h1 : G 1 = nI n) {s E : Nat} {k : Int32} (h2 : G 2 = k) (h3 : G 3 = nI s) (h4 : G 4 = nI E) (hs : s ≤ 900) (hE : E ≤ 900) (hsE : s ≤ E) {u : UInt32} {l : List Int32} (hw : WU u l) : fn_X4_isWord N M 2 u = some (if wdB tb k s E l then 1 else 0, M) := by
  unfold fn_X4_isWord wdB
  rw [h.i2, obs, h2]
  by_cases q : k = 2
  · have hq := nI_eq (a := E - s) (b := l.length) (by omega) (by have := hw.2.2.2; omega)
    rw [if_pos q, h.i4, obs, h.i3, obs, hw.1, obs, hw.2.1, b2s, h3, h4, pk_sub hsE]
    by_cases z : E - s = l.length
    · have e28 := ev_word28 (N := N) h ht h1 h3 hs hw N 0 (by omega) (by have := hw.2.2.2; omega)
      rw [nI_0] at e28
      rw [if_pos (hq.mpr z), e28]
      simp [q, z]
    · rw [if_neg (fun y => z (hq.mp y))]
      simp [z]
  · rw [if_neg q]
    simp [q]
theorem pw_kindT (hN : 2 ^ 15 ≤ N) (h : PAt M gb sp G κ) (ht : TB gb tb n) (hp : PG n n G p) (hfl : FG G fl) : PW gb sp M (fn_X4_readKind N M 2 (sp + 1) 1) (fun _ G' κ' => κ' = (kdS tb n 0 true p κ).2 ∧ PG n n G' (kdS tb n 0 true p κ).1 ∧ FG G' fl) := by
  unfold fn_X4_readKind
  rw [h.2.2.1.t0, obs, row_ck h.2.2.1.r0, obs, row_isFull h.2.2.1.r0, b2s, h.ck, obs]
  refine PW.call (pw_fail (k := 4) (c := !decide ((κ.2 0).length < capK 0)) h hp (by
    show (if (κ.2 0).length < 8 then (0 : Int32) else 1) = if (!decide ((κ.2 0).length < 8)) = true then 1 else 0
    by_cases q : (κ.2 0).length < 8
    · simp [q]
    · simp [q]) (by omega) (by omega)) ?_
  rintro _ M1 G1 κ1 q1 ⟨rfl, g1, f2, f4, f6, f7, f8⟩
  have hf1 := hfl.eq f6 f7 f8
  rw [q1.2.2.1.t0, obs, if_neg (by decide)]
  unfold fn_X4_readKind_32
  refine PW.rd hN rwk0 q1 ht g1 hf1 fun M2 G2 q2 g2 hf2 => ?_
  rw [q2.2.2.1.t1, obs]
  refine PW.rd hN rwk1 q2 ht g2 hf2 fun M3 G3 q3 g3 hf3 => ?_
  rw [q3.2.2.1.t2, obs]
  refine PW.rd hN rwk2 q3 ht g3 hf3 fun M4 G4 q4 g4 hf4 => ?_
  rw [q4.2.2.1.t3, obs]
  refine PW.rd hN rwk3 q4 ht g4 hf4 fun M5 G5 q5 g5 hf5 => ?_
  rw [q5.2.2.1.t4, obs]
  refine PW.rd hN rwk4 q5 ht g5 hf5 fun M6 G6 q6 g6 hf6 => ?_
  exact PW.ret q6 ⟨rfl, g6, hf6⟩
theorem pw_kindF (hN : 2 ^ 15 ≤ N) (h : PAt M gb sp G κ) (ht : TB gb tb n) (hp : PG n n G p) (hfl : FG G fl) : PW gb sp M (fn_X4_readKind N M 2 (sp + 12) 0) (fun _ G' κ' => κ' = (kdS tb n 5 false p κ).2 ∧ PG n n G' (kdS tb n 5 false p κ).1 ∧ FG G' fl) := by
  unfold fn_X4_readKind
  rw [h.2.2.1.f0, obs, row_ck h.2.2.1.r5, obs, row_isFull h.2.2.1.r5, b2s, h.ck, obs]
  refine PW.call (pw_fail (k := 4) (c := !decide ((κ.2 5).length < capK 5)) h hp (by
    show (if (κ.2 5).length < 4 then (0 : Int32) else 1) = if (!decide ((κ.2 5).length < 4)) = true then 1 else 0
    by_cases q : (κ.2 5).length < 4
    · simp [q]
    · simp [q]) (by omega) (by omega)) ?_
  rintro _ M1 G1 κ1 q1 ⟨rfl, g1, f2, f4, f6, f7, f8⟩
  have hf1 := hfl.eq f6 f7 f8
  rw [q1.2.2.1.f0, obs, if_pos rfl]
  unfold fn_X4_readKind_32
  rw [rwk5.ck q1, obs]
  refine PW.ad rwk5 q1 fun M2 q2 => ?_
  rw [q2.2.2.1.f1, obs]
  refine PW.rd hN rwk6 q2 ht g1 hf1 fun M3 G3 q3 g3 hf3 => ?_
  rw [q3.2.2.1.f2, obs]
  refine PW.rd hN rwk7 q3 ht g3 hf3 fun M4 G4 q4 g4 hf4 => ?_
  rw [q4.2.2.1.f3, obs]
  refine PW.rd hN rwk8 q4 ht g4 hf4 fun M5 G5 q5 g5 hf5 => ?_
  rw [q5.2.2.1.f4, obs]
  refine PW.rd hN rwk9 q5 ht g5 hf5 fun M6 G6 q6 g6 hf6 => ?_
  exact PW.ret q6 ⟨rfl, g6, hf6⟩
theorem pw_bin (hN : 2 ^ 15 ≤ N) (h : PAt M gb sp G κ) (ht : TB gb tb n) (hp : PG n n G p) (hfl : FG G fl) : PW gb sp M (fn_X4_readBin N M 2 sp) (fun _ G' κ' => κ' = (bnS tb n p κ).2 ∧ PG n n G' (bnS tb n p κ).1 ∧ FG G' fl) := by
  unfold fn_X4_readBin
  rw [h.2.2.1.bt, obs, row_ck h.2.2.1.r10, obs, row_isFull h.2.2.1.r10, b2s, h.ck, obs]
  refine PW.call (pw_fail (k := 4) (c := !decide ((κ.2 10).length < capK 10)) h hp (by
    show (if (κ.2 10).length < 8 then (0 : Int32) else 1) = if (!decide ((κ.2 10).length < 8)) = true then 1 else 0
    by_cases q : (κ.2 10).length < 8
    · simp [q]
    · simp [q]) (by omega) (by omega)) ?_
  rintro _ M1 G1 κ1 q1 ⟨rfl, g1, f2, f4, f6, f7, f8⟩
  have hf1 := hfl.eq f6 f7 f8
  unfold fn_X3_count
  rw [q1.2.2.1.bt, obs, q1.2.2.1.ty, obs, q1.2.2.1.ct, obs, q1.2.2.1.t0, obs, row_size q1.2.2.1.r0, obs, b2s]
  refine PW.rd hN rwk10 q1 ht g1 hf1 fun M2 G2 q2 g2 hf2 => ?_
  rw [q2.2.2.1.bs, obs]
  refine PW.rd hN rwk11 q2 ht g2 hf2 fun M3 G3 q3 g3 hf3 => ?_
  exact PW.ret q3 ⟨rfl, g3, hf3⟩
/-- gate, loop or margin: behind the look at its flag -/
theorem pw_once (hN : 2 ^ 15 ≤ N) (h : PAt M gb sp G κ) (ht : TB gb tb n) (hp : PG n n G p) (hfl : FG G fl) {i : Nat} (hi : i < 3) (lo hi' : Int32) {Q : Unit → (Nat → Int32) → Cf → Prop} {f : Mem → Option (Unit × Mem)} (k : ∀ M' G' κ', PAt M' gb sp G' κ' → κ' = (onS tb n i lo hi' p κ fl).2.1 → PG n n G' (onS tb n i lo hi' p κ fl).1 → FG G' (onS tb n i lo hi' p κ fl).2.2 → PW gb sp M' (f M') Q) : PW gb sp M ((mm_gI M 2 4 (6 + i)).bind fun v22 => (mm_ck M 2 4).bind fun _ => mm_b2 (fn_X4_failIf N M 2 v22 3) fun _ M23 => (mm_pZ M23 2 4 (6 + i) 1).bind fun M24 => (mm_ck M24 2 4).bind fun _ => mm_b2 (fn_X4_readNumber N M24 2 lo hi') fun v26 M25 => (mm_pV M25 sp 0 (4 + i) (.int v26)).bind fun M27 => f M27) Q := by
  have e1 : mm_gI M 2 4 (6 + i) = some (nI (fl i)) ∧ fl i ≤ 1 := by
    rcases (show i = 0 ∨ i = 1 ∨ i = 2 by omega) with rfl | rfl | rfl
    · exact ⟨h.i6.trans (by rw [hfl.1.1]), hfl.1.2⟩
    · exact ⟨h.i7.trans (by rw [hfl.2.1.1]), hfl.2.1.2⟩
    · exact ⟨h.i8.trans (by rw [hfl.2.2.1]), hfl.2.2.2⟩
  rw [e1.1, obs, h.ck, obs]
  refine PW.call (pw_fail (k := 3) (c := decide (fl i = 1)) h hp (by
    rcases (show fl i = 0 ∨ fl i = 1 by have := e1.2; omega) with z | z
    · rw [z]; rfl
    · rw [z]; rfl) (by omega) (by omega)) ?_
  rintro _ M1 G1 κ1 q1 ⟨rfl, g1, f2, f4, f6, f7, f8⟩
  have hf1 := hfl.eq f6 f7 f8
  refine PW.pZ q1 (Or.inr rfl) (fun M2 q2 => ?_) (by rcases (show i = 0 ∨ i = 1 ∨ i = 2 by omega) with rfl | rfl | rfl <;> decide)
  have g2 : PG n n (upd G1 (6 + i) 1) (failS p (decide (fl i = 1)) 3) := by
    obtain ⟨z1, z2, z3, z4, z5⟩ := g1
    exact ⟨by rw [pk_un (by omega)]; exact z1, by rw [pk_un (by omega)]; exact z2, by rw [pk_un (by omega)]; exact z3, by rw [pk_un (by omega)]; exact z4, z5⟩
  have hf2 : FG (upd G1 (6 + i) 1) (va_up fl i 1) := by
    rcases (show i = 0 ∨ i = 1 ∨ i = 2 by omega) with rfl | rfl | rfl
    · exact ⟨⟨rfl, Nat.le_refl _⟩, hf1.2.1, hf1.2.2⟩
    · exact ⟨hf1.1, ⟨rfl, Nat.le_refl _⟩, hf1.2.2⟩
    · exact ⟨hf1.1, hf1.2.1, ⟨rfl, Nat.le_refl _⟩⟩
  rw [q2.ck, obs]
  refine PW.call (pw_num hN q2 ht g2 lo hi') ?_
  rintro r M3 G3 κ3 q3 ⟨rfl, rfl, g3, e6, e7, e8⟩
  have hf3 := hf2.eq e6 e7 e8
  obtain ⟨c1, c2, c3, c4⟩ := q3
  have hn : ∃ M', mm_pV M3 sp 0 (4 + i) (.int (rdN tb n (failS p (decide (fl i = 1)) 3) lo hi').2) = some M' ∧ CfAt M' sp (upd κ3.1 i (rdN tb n (failS p (decide (fl i = 1)) 3) lo hi').2, κ3.2) ∧ Fr M3 M' sp (sp + 1) := by
    rcases (show i = 0 ∨ i = 1 ∨ i = 2 by omega) with rfl | rfl | rfl
    · exact c3.n0 _
    · exact c3.n1 _
    · exact c3.n2 _
  obtain ⟨M4, e4, c5, f5⟩ := hn
  rw [e4, obs]
  exact PW.fr (FrP.of f5 (by omega) (by omega)) (k M4 G3 _ ⟨by rw [f5.2 2 (by omega)]; exact c1, by rw [f5.2 1 (by omega)]; exact c2, c5, c4⟩ rfl g3 hf3)
theorem pw_stmt (hN : 2 ^ 15 ≤ N) (h : PAt M gb sp G κ) (ht : TB gb tb n) (hp : PG n n G p) (h0 : p.1 = 0) (hsE : p.2.1 ≤ p.2.2) {k : Int32} (h2 : G 2 = k) (hfl : FG G fl) : PW gb sp M (fn_X4_readStatement N M 2 sp) (fun _ G' κ' => κ' = (stB tb n k p κ fl).2.1 ∧ PG n n G' (smS tb n (stB tb n k p κ fl).1) ∧ FG G' (stB tb n k p κ fl).2.2) := by
  have h800 := ht.2.2
  have hE := (hp.2.2.2.1 h0).2
  have h4 := (hp.2.2.2.1 h0).1
  have hiw : ∀ {u : UInt32} {l : List Int32}, WU u l → fn_X4_isWord N M 2 u = some (if wdB tb k p.2.1 p.2.2 l then 1 else 0, M) := fun hw => ev_isWord hN h ht hp.1 h2 hp.2.2.1 h4 (by have := hp.2.2.2.2.2; omega) (by omega) hsE hw
  have fin : ∀ (M' : Mem) (G' : Nat → Int32) (κ' : Cf) (x : Ps × Cf × (Nat → Nat)), PAt M' gb sp G' κ' → κ' = x.2.1 → PG n n G' x.1 → FG G' x.2.2 → PW gb sp M' ((mm_ck M' 2 4).bind fun _ => mm_b2 (fn_X4_readSemicolon N M' 2) fun _ M21 => some ((), M21)) (fun _ G'' κ'' => κ'' = x.2.1 ∧ PG n n G'' (smS tb n x.1) ∧ FG G'' x.2.2) := by
    intro M' G' κ' x q e g f
    rw [q.ck, obs]
    refine PW.call (pw_semi hN q ht g) ?_
    rintro _ M1 G1 κ1 q1 ⟨rfl, g1, e6, e7, e8⟩
    exact PW.ret q1 ⟨e, g1, f.eq e6 e7 e8⟩
  unfold fn_X4_readStatement stB
  rw [h.ck, obs, hiw wu0, b2s]
  by_cases c0 : wdB tb k p.2.1 p.2.2 wd0 = true
  · rw [if_pos c0, if_neg (by decide), if_pos c0, h.2.2.1.ty, obs, h.ck, obs]
    refine PW.call (pw_kindT hN h ht hp hfl) ?_
    rintro _ M1 G1 κ1 q1 ⟨rfl, g1, f1⟩
    exact fin M1 G1 _ ((kdS tb n 0 true p κ).1, (kdS tb n 0 true p κ).2, fl) q1 rfl g1 f1
  · rw [if_neg c0, if_pos rfl, if_neg c0, h.ck, obs, hiw wu1, b2s]
    by_cases c1 : wdB tb k p.2.1 p.2.2 wd1 = true
    · rw [if_pos c1, if_neg (by decide), if_pos c1, h.2.2.1.fk, obs, h.ck, obs]
      refine PW.call (pw_kindF hN h ht hp hfl) ?_
      rintro _ M1 G1 κ1 q1 ⟨rfl, g1, f1⟩
      exact fin M1 G1 _ ((kdS tb n 5 false p κ).1, (kdS tb n 5 false p κ).2, fl) q1 rfl g1 f1
    · rw [if_neg c1, if_pos rfl, if_neg c1, h.ck, obs, hiw wu2, b2s]
      by_cases c2 : wdB tb k p.2.1 p.2.2 wd2 = true
      · rw [if_pos c2, if_neg (by decide), if_pos c2, h.ck, obs]
        refine PW.call (pw_bin hN h ht hp hfl) ?_
        rintro _ M1 G1 κ1 q1 ⟨rfl, g1, f1⟩
        exact fin M1 G1 _ ((bnS tb n p κ).1, (bnS tb n p κ).2, fl) q1 rfl g1 f1
      · rw [if_neg c2, if_pos rfl, if_neg c2, h.ck, obs, hiw wu3, b2s]
        by_cases c3 : wdB tb k p.2.1 p.2.2 wd3 = true
        · rw [if_pos c3, if_neg (by decide), if_pos c3]
          exact pw_once (i := 0) hN h ht hp hfl (by omega) 1000 4000 fun M' G' κ' q e g f => fin M' G' κ' _ q e g f
        · rw [if_neg c3, if_pos rfl, if_neg c3, h.ck, obs, hiw wu4, b2s]
          by_cases c4 : wdB tb k p.2.1 p.2.2 wd4 = true
          · rw [if_pos c4, if_neg (by decide), if_pos c4]
            exact pw_once (i := 1) hN h ht hp hfl (by omega) 0 20 fun M' G' κ' q e g f => fin M' G' κ' _ q e g f
          · rw [if_neg c4, if_pos rfl, if_neg c4, h.ck, obs, hiw wu5, b2s]
            by_cases c5 : wdB tb k p.2.1 p.2.2 wd5 = true
            · rw [if_pos c5, if_neg (by decide), if_pos c5]
              exact pw_once (i := 2) hN h ht hp hfl (by omega) 0 2000 fun M' G' κ' q e g f => fin M' G' κ' _ q e g f
            · rw [if_neg c5, if_pos rfl, if_neg c5, h.ck, obs]
              refine PW.call (pw_fail (k := 1) (c := true) h hp rfl (by omega) (by omega)) ?_
              rintro _ M1 G1 κ1 q1 ⟨rfl, g1, f2, f4, f6, f7, f8⟩
              exact fin M1 G1 _ (failS p true 1, κ1, fl) q1 rfl g1 (hfl.eq f6 f7 f8)
end STx
/-! how far a statement comes -/
def Adv (n : Nat) (p p' : Ps) : Prop := (p.1 = 0 → p.2.2 ≤ n) → p'.1 = 0 → p.1 = 0 ∧ p.2.2 ≤ p'.2.2 ∧ p'.2.2 ≤ n
theorem Adv.tr {n : Nat} {p p' p'' : Ps} (h : Adv n p p') (g : Adv n p' p'') : Adv n p p'' := fun h0 h2 => by
  obtain ⟨g1, g2, g3⟩ := g (fun z => (h h0 z).2.2) h2
  obtain ⟨f1, f2, f3⟩ := h h0 g1
  exact ⟨f1, Nat.le_trans f2 g2, g3⟩
section AD
variable {tb : Nat → Int32} {n : Nat} (hz : ∀ k, n ≤ k → tb k = -1)
theorem adv_fail {p : Ps} {b : Bool} {k : Nat} (hk : 1 ≤ k) : Adv n p (failS p b k) := by
  intro h0 h1
  unfold failS at h1 ⊢
  cases b with
  | false => exact ⟨h1, Nat.le_refl _, h0 h1⟩
  | true =>
    rw [if_pos rfl] at h1 ⊢
    by_cases q : p.1 = 0
    · rw [if_pos q] at h1
      have : 8 * p.2.1 + k = 0 := h1
      omega
    · rw [if_neg q] at h1
      exact absurd h1 q
theorem rdN_ok {p : Ps} {lo hi : Int32} (h : (rdN tb n p lo hi).1.1 = 0) : p.1 = 0 ∧ tkK tb n p.2.2 = 3 ∧ ¬ rdV tb n p.2.2 < lo ∧ rdV tb n p.2.2 ≤ hi ∧ (rdN tb n p lo hi).2 = rdV tb n p.2.2 ∧ (rdN tb n p lo hi).1 = (0, tkS tb n p.2.2, tkE tb n p.2.2) := by
  unfold rdN at h ⊢
  by_cases q : p.1 = 0
  · rw [if_pos q] at h ⊢
    have h' : rdE tb n p.2.2 lo hi = 0 := h
    have h2 := h'
    unfold rdE at h'
    by_cases k3 : tkK tb n p.2.2 = 3
    · rw [if_pos k3] at h'
      by_cases v1 : rdV tb n p.2.2 < lo
      · rw [if_pos v1] at h'; omega
      · rw [if_neg v1] at h'
        by_cases v2 : rdV tb n p.2.2 ≤ hi
        · exact ⟨q, k3, v1, v2, rfl, by rw [h2]⟩
        · rw [if_neg v2] at h'; omega
    · rw [if_neg k3] at h'; omega
  · rw [if_neg q] at h
    exact absurd h q
end AD
section AE
variable {tb : Nat → Int32} {n : Nat}
theorem tk_nz {e : Nat} {c : Int32} (hz : ∀ k, n ≤ k → tb k = -1) (he : e ≤ n) (h : tkK tb n e = c) (hc : ¬ c = 0) : e < tkE tb n e ∧ tkE tb n e ≤ n := by
  obtain ⟨b1, b2, b3, b4, b5, b6, b7⟩ := tk_bd hz he
  have hc0 : ¬ tkC tb n e = 0 := fun z => hc (by rw [← h]; exact b7.mpr z)
  have := b3 hc0
  omega
theorem adv_rdN (hz : ∀ k, n ≤ k → tb k = -1) {p : Ps} {lo hi : Int32} : Adv n p (rdN tb n p lo hi).1 := by
  intro h0 h1
  obtain ⟨q1, q2, -, -, -, q6⟩ := rdN_ok h1
  rw [q6]
  have := tk_nz hz (h0 q1) q2 (by decide)
  exact ⟨q1, by show p.2.2 ≤ tkE tb n p.2.2; omega, this.2⟩
theorem adv_sm (hz : ∀ k, n ≤ k → tb k = -1) {p : Ps} : Adv n p (smS tb n p) := by
  intro h0 h1
  unfold smS at h1 ⊢
  by_cases q : p.1 = 0
  · rw [if_pos q] at h1 ⊢
    by_cases k4 : tkK tb n p.2.2 = 4
    · have := tk_nz hz (h0 q) k4 (by decide)
      exact ⟨q, by show p.2.2 ≤ tkE tb n p.2.2; omega, this.2⟩
    · rw [if_neg k4] at h1
      have : 8 * tkS tb n p.2.2 + 1 = 0 := h1
      omega
  · rw [if_neg q] at h1
    exact absurd h1 q
theorem adv_rdA (hz : ∀ k, n ≤ k → tb k = -1) {x : Ps × Cf} {r : Nat} {lo hi : Int32} : Adv n x.1 (rdA tb n r lo hi x).1 := adv_rdN hz
theorem adv_rf {p : Ps} : Adv n p p := fun h0 h1 => ⟨h1, Nat.le_refl _, h0 h1⟩
theorem adv_stB (hz : ∀ k, n ≤ k → tb k = -1) {k : Int32} {p : Ps} {κ : Cf} {fl : Nat → Nat} : Adv n p (stB tb n k p κ fl).1 := by
  have hkd : ∀ o hv, Adv n p (kdS tb n o hv p κ).1 := by
    intro o hv
    unfold kdS
    refine Adv.tr ?_ (adv_rdA hz)
    refine Adv.tr ?_ (adv_rdA hz)
    refine Adv.tr ?_ (adv_rdA hz)
    refine Adv.tr ?_ (adv_rdA hz)
    refine Adv.tr (adv_fail (b := !decide ((κ.2 o).length < capK o)) (k := 4) (by omega)) ?_
    cases hv with
    | true => exact adv_rdA hz (x := (failS p (!decide ((κ.2 o).length < capK o)) 4, κ))
    | false => exact adv_rf
  have hon : ∀ i lo hi, Adv n p (onS tb n i lo hi p κ fl).1 := fun i lo hi => Adv.tr (adv_fail (k := 3) (by omega)) (adv_rdN hz)
  unfold stB
  split
  · exact hkd 0 true
  · split
    · exact hkd 5 false
    · split
      · unfold bnS
        exact Adv.tr (Adv.tr (adv_fail (k := 4) (by omega)) (adv_rdA hz (r := 10) (x := (failS p (!decide ((κ.2 10).length < capK 10)) 4, κ)))) (adv_rdA hz (r := 11))
      · split
        · exact hon _ _ _
        · split
          · exact hon _ _ _
          · split
            · exact hon _ _ _
            · exact adv_fail (by omega)
end AE
section PLx
variable {N : Nat} {gb tb : Nat → Int32} {sp n : Nat} {O : List Value}
theorem pw_has (hN : 2 ^ 15 ≤ N) {M : Mem} {G : Nat → Int32} {κ : Cf} {p : Ps} (h : PAt M gb sp G κ) (ht : TB gb tb n) (hp : PG n n G p) (h0 : p.1 = 0) : PW gb sp M (fn_X4_hasStatement N M 2) (fun r G' κ' => κ' = κ ∧ r = (if tkK tb n p.2.2 = 0 then 0 else 1) ∧ TkG tb n p.2.2 G G') := by
  unfold fn_X4_hasStatement
  obtain ⟨p7, p8⟩ := hp.2.2.2.1 h0
  rw [h.i5, obs, hp.2.1, h0, if_pos nI_0, h.ck, obs]
  refine PW.call (pw_tok hN h ht hp.1 p7 p8) ?_
  rintro _ M1 G1 κ1 q1 ⟨rfl, t⟩
  rw [q1.i2, obs, t.2.1]
  by_cases q : tkK tb n p.2.2 = 0
  · rw [if_pos q, if_pos q]
    exact PW.ret q1 ⟨rfl, rfl, t⟩
  · rw [if_neg q, if_neg q]
    exact PW.ret q1 ⟨rfl, rfl, t⟩
theorem x_p40 (hN : 2 ^ 15 ≤ N) (ht : TB gb tb n) (hO2 : O[2]? = some (.ref 2)) (hO4 : O[4]? = some (.ref sp)) : ∀ (f m : Nat) (p : Ps) (κ : Cf) (fl : Nat → Nat) (i : Nat) (M : Mem) (G : Nat → Int32), PAt M gb sp G κ → PG n n G p → FG G fl → M[0]? = some (.inr (9, O)) → (p.1 = 0 → i ≤ p.2.2 ∧ n + 1 - p.2.2 ≤ f) → f < m → i ≤ 1000 → ∃ M' G', fn_X9_parse_40 N m M 0 (nI n) (nI i) = fn_X9_parse_72 N M' 0 ∧ PAt M' gb sp G' (plS tb n f p κ fl).2 ∧ FrP sp M M' ∧ G' 5 = nI (plS tb n f p κ fl).1.1 ∧ (plS tb n f p κ fl).1.1 < 10000 := by
  have h800 := ht.2.2
  intro f
  induction f with
  | zero =>
    intro m p κ fl i M G h hp hfl hM hi hm hi2
    have hne : ¬ p.1 = 0 := fun z => by have := hi z; have := (hp.2.2.2.1 z).2; omega
    obtain ⟨k, rfl⟩ : ∃ k, m = k + 1 := ⟨m - 1, by omega⟩
    rw [fn_X9_parse_40.eq_2]
    refine ⟨M, G, ?_, h, FrP.rf, hp.2.1, hp.2.2.2.2.1⟩
    by_cases c : nI n < nI i
    · rw [if_pos c]
    · rw [if_neg c, ev_gR hM hO2, obs, h.ck, obs]
      unfold fn_X4_hasStatement
      rw [h.i5, obs, hp.2.1, if_neg (fun z => hne ((nI_eq (a := p.1) (b := 0) (by have := hp.2.2.2.2.1; omega) (by omega)).mp (z.trans nI_0.symm))), b2s, if_pos rfl]
  | succ f ih =>
    intro m p κ fl i M G h hp hfl hM hi hm hi2
    obtain ⟨k, rfl⟩ : ∃ k, m = k + 1 := ⟨m - 1, by omega⟩
    rw [fn_X9_parse_40.eq_2]
    by_cases h0 : p.1 = 0
    · obtain ⟨i1, i2⟩ := hi h0
      obtain ⟨p7, p8⟩ := hp.2.2.2.1 h0
      rw [if_neg (nI_nlt (by omega) (by omega)), ev_gR hM hO2, obs, h.ck, obs]
      obtain ⟨r, M1, G1, κ1, e1, q1, f1, rfl, rfl, t⟩ := pw_has hN h ht hp h0
      rw [e1, b2s, plS, if_pos h0]
      by_cases k0 : tkK tb n p.2.2 = 0
      · rw [if_pos k0, if_pos rfl, if_pos k0]
        exact ⟨M1, G1, rfl, q1, f1, by rw [t.2.2.2.2.1]; exact hp.2.1, hp.2.2.2.2.1⟩
      · have hM1 : M1[0]? = some (.inr (9, O)) := by rw [f1.2 0 (by omega) (by have := h.2.2.2; omega)]; exact hM
        obtain ⟨b1, b2, b3, b4, b5, b6, b7⟩ := tk_bd ht.2.1 p8
        have hb := tk_nz ht.2.1 p8 (c := tkK tb n p.2.2) rfl k0
        rw [if_neg k0, if_neg (by decide), if_neg k0, ev_gR hM1 hO2, obs, ev_gR hM1 hO4, obs, q1.ck, obs]
        have hp1 : PG n n G1 (0, tkS tb n p.2.2, tkE tb n p.2.2) := ⟨t.1.trans hp.1, t.2.2.2.2.1.trans (hp.2.1.trans (by rw [h0])), t.2.2.1, fun _ => ⟨t.2.2.2.1, hb.2⟩, by show 0 < 10000; omega, by show tkS tb n p.2.2 ≤ 800; omega⟩
        obtain ⟨r2, M2, G2, κ2, e2, q2, f2, rfl, g2, fl2⟩ := pw_stmt hN q1 ht hp1 rfl b5 t.2.1 (hfl.eq t.2.2.2.2.2.1 t.2.2.2.2.2.2.1 t.2.2.2.2.2.2.2)
        rw [e2, b2s, nI_1]
        have hM2 : M2[0]? = some (.inr (9, O)) := by rw [f2.2 0 (by omega) (by have := h.2.2.2; omega)]; exact hM1
        obtain ⟨M3, G3, z1, z2, z3, z4⟩ := ih k _ _ _ (i + 1) M2 G2 q2 g2 fl2 hM2 (fun z => by
          have := (adv_stB ht.2.1 (k := tkK tb n p.2.2) (p := (0, tkS tb n p.2.2, tkE tb n p.2.2)) (κ := κ1) (fl := fl)).tr (adv_sm ht.2.1)
          obtain ⟨-, a2, a3⟩ := this (fun _ => hb.2) z
          have a2' : tkE tb n p.2.2 ≤ _ := a2
          omega) (by omega) (by omega)
        exact ⟨M3, G3, z1, z2, f1.tr (f2.tr z3), z4⟩
    · have e0 : plS tb n (f + 1) p κ fl = (p, κ) := by rw [plS, if_neg h0]
      rw [e0]
      refine ⟨M, G, ?_, h, FrP.rf, hp.2.1, hp.2.2.2.2.1⟩
      by_cases c : nI n < nI i
      · rw [if_pos c]
      · rw [if_neg c, ev_gR hM hO2, obs, h.ck, obs]
        unfold fn_X4_hasStatement
        rw [h.i5, obs, hp.2.1, if_neg (fun z => h0 ((nI_eq (a := p.1) (b := 0) (by have := hp.2.2.2.2.1; omega) (by omega)).mp (z.trans nI_0.symm))), b2s, if_pos rfl]
end PLx
