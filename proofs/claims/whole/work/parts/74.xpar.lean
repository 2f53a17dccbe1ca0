/-! PURE: the class's append and parse -/
theorem pv_step {M : Mem} {a ci j : Nat} {fs : List Value} {v : Value} (h : M[a]? = some (.inr (ci, fs))) (hj : j < fs.length) : ∃ M', mm_pV M a ci j v = some M' ∧ M'[a]? = some (.inr (ci, fs.set j v)) ∧ Fr M M' a (a + 1) := ⟨_, ev_pV h hj, st_self h, Fr.set (by omega) (by omega)⟩
def byI (v s : Int32) : Int32 := vp_nar .byte (Int8.toInt32 (Int32.toInt8 (v >>> (s &&& 31))))
def awI (bf : List Int32) (v : Int32) : List Int32 := bf ++ [byI v 24] ++ [byI v 16] ++ [byI v 8] ++ [byI v 0]
theorem awI_len {bf : List Int32} {v : Int32} : (awI bf v).length = bf.length + 4 := by simp [awI]
def apI (bf : List Int32) (a b c d e : Int32) : Int32 × List Int32 := if bf.length ≤ 780 then (nI (bf.length + 20), awI (awI (awI (awI (awI bf a) b) c) d) e) else (-3, bf)
theorem app_len {bf : List Int32} {x : Int32} : (bf ++ [x]).length = bf.length + 1 := by simp
section XP
variable {N : Nat} {M : Mem} {bf : List Int32} {κ : Cf} {σ : St} {U : List St} {sn : Nat → Option St}
theorem x_aw1 {m : Nat} {v s : Int32} (h : XAt M bf κ σ U sn) (hl : bf.length < 800) (hs : ¬ s < 0) : ∃ M', fn_X9_appendWord_3 N (m + 1) M 0 v s = fn_X9_appendWord_3 N m M' 0 v (s + (-8)) ∧ XAt M' (bf ++ [byI v s]) κ σ U sn ∧ Fr M M' 0 389 := by
  obtain ⟨cf, sp, κ', h1, h2, ⟨g, b1, b2, b3⟩, h4, h5, h6, h7, h8, h9⟩ := h
  have a1 : mm_gI M 0 9 1 = some (nI bf.length) := ev_gI h1 rfl
  have a0 : mm_gR M 0 9 0 = some 1 := ev_gR h1 rfl
  have n1 : mm_aN M 1 = some (nI 800) := ev_aN b1 (by decide)
  rw [fn_X9_appendWord_3.eq_2, if_neg hs]
  simp only [a1, a0, n1, obs]
  rw [if_neg (nI_pos (by omega)), if_neg (nI_ge hl (by decide)), ev_sI b1 hl (by decide), obs]
  have k0 : (M.set 1 (.inl (2, 800, .inl (upd g bf.length (byI v s)))))[0]? = some (.inr (9, [.ref 1, .int (nI bf.length), .ref 2, .ref cf, .ref sp, .ref 58, .ref 79, .ref 333, .ref 376, .ref 377, .ref 378, .ref 384])) := by rw [st_ne (by omega)]; exact h1
  have k1 : (M.set 1 (.inl (2, 800, .inl (upd g bf.length (byI v s)))))[1]? = some (.inl (2, 800, .inl (upd g bf.length (byI v s)))) := st_self b1
  have f1 : Fr M (M.set 1 (.inl (2, 800, .inl (upd g bf.length (byI v s))))) 0 2 := Fr.set (by omega) (by omega)
  unfold fn_X9_appendWord_49
  change ∃ M', ((mm_gI (M.set 1 (.inl (2, 800, .inl (upd g bf.length (byI v s))))) 0 9 1).bind fun v8 => (mm_pV (M.set 1 (.inl (2, 800, .inl (upd g bf.length (byI v s))))) 0 9 1 (.int (v8 + 1))).bind fun M9 => fn_X9_appendWord_3 N m M9 0 v (s + (-8))) = _ ∧ _
  generalize M.set 1 (.inl (2, 800, .inl (upd g bf.length (byI v s)))) = M1 at k0 k1 f1 ⊢
  obtain ⟨M2, e2, k2, f2⟩ := pv_step (j := 1) (v := .int (nI (bf ++ [byI v s]).length)) k0 (by simp)
  have el : nI bf.length + 1 = nI (bf ++ [byI v s]).length := by rw [nI_1, app_len]
  rw [ev_gI k0 rfl, obs, el, e2, obs]
  have f3 : Fr M M2 0 2 := f1.tr (f2.mono (by omega) (by omega))
  refine ⟨M2, rfl, ⟨cf, sp, κ', k2, h2, ⟨upd g bf.length (byI v s), ?_, by rw [app_len]; omega, fun i hi => ?_⟩, h4.keep f3 (by omega), h5.keep f3 (by omega), h6.keep f3 (by omega), h7.keep f3 (by omega), h8.keep f3 (by omega), h9.keep f3 (by omega)⟩, f3.mono (by omega) (by omega)⟩
  · rw [f2.2 1 (by omega)]
    exact k1
  · rw [app_len] at hi
    by_cases z : i = bf.length
    · rw [z, pk_us, gB rfl]
    · rw [pk_un z, gA (by omega)]
      exact b3 i (by omega)
theorem x_aw {v : Int32} (hN : 2 ^ 15 ≤ N) (h : XAt M bf κ σ U sn) (hl : bf.length + 4 ≤ 800) : ∃ M', fn_X9_appendWord N M 0 v = some ((), M') ∧ XAt M' (awI bf v) κ σ U sn ∧ Fr M M' 0 389 := by
  unfold fn_X9_appendWord
  obtain ⟨k, hk⟩ : ∃ k, N = k + 1 + 1 + 1 + 1 + 1 := ⟨N - 5, by omega⟩
  have key : ∀ m, m = k + 1 + 1 + 1 + 1 + 1 → ∃ M', fn_X9_appendWord_3 N m M 0 v 24 = some ((), M') ∧ XAt M' (awI bf v) κ σ U sn ∧ Fr M M' 0 389 := by
    intro m hm
    subst hm
    obtain ⟨M1, e1, x1, f1⟩ := x_aw1 (N := N) (m := k + 1 + 1 + 1 + 1) (v := v) (s := 24) h (by omega) (by decide)
    rw [e1, show (24 : Int32) + (-8) = 16 by decide]
    obtain ⟨M2, e2, x2, f2⟩ := x_aw1 (N := N) (m := k + 1 + 1 + 1) (v := v) (s := 16) x1 (by rw [app_len]; omega) (by decide)
    rw [e2, show (16 : Int32) + (-8) = 8 by decide]
    obtain ⟨M3, e3, x3, f3⟩ := x_aw1 (N := N) (m := k + 1 + 1) (v := v) (s := 8) x2 (by rw [app_len, app_len]; omega) (by decide)
    rw [e3, show (8 : Int32) + (-8) = 0 by decide]
    obtain ⟨M4, e4, x4, f4⟩ := x_aw1 (N := N) (m := k + 1) (v := v) (s := 0) x3 (by rw [app_len, app_len, app_len]; omega) (by decide)
    rw [e4, fn_X9_appendWord_3.eq_2, if_pos (by decide)]
    exact ⟨M4, rfl, x4, f1.tr (f2.tr (f3.tr f4))⟩
  exact key N hk
theorem x_append (hN : 2 ^ 15 ≤ N) (h : XAt M bf κ σ U sn) (a b c d e : Int32) : ∃ M', fn_X9_append N M 0 a b c d e = some ((apI bf a b c d e).1, M') ∧ XAt M' (apI bf a b c d e).2 κ σ U sn ∧ Fr M M' 0 389 := by
  have gl : ∀ {M : Mem} {bf : List Int32}, XAt M bf κ σ U sn → mm_gI M 0 9 1 = some (nI bf.length) ∧ bf.length ≤ 800 := by
    rintro M bf ⟨cf, sp, κ', h1, h2, ⟨g, b1, b2, b3⟩, -⟩
    exact ⟨ev_gI h1 rfl, b2⟩
  unfold fn_X9_append apI
  obtain ⟨g1, g2⟩ := gl h
  rw [g1, obs]
  have hq := nI_leI (a := bf.length) (b := 780) (by omega) (by decide)
  by_cases q : bf.length ≤ 780
  · rw [if_pos (show nI bf.length ≤ 780 from hq.mpr q), if_pos q, h.ck, obs]
    obtain ⟨M1, e1, x1, f1⟩ := x_aw (N := N) (v := a) hN h (by omega)
    rw [e1, b2s, x1.ck, obs]
    obtain ⟨M2, e2, x2, f2⟩ := x_aw (N := N) (v := b) hN x1 (by rw [awI_len]; omega)
    rw [e2, b2s, x2.ck, obs]
    obtain ⟨M3, e3, x3, f3⟩ := x_aw (N := N) (v := c) hN x2 (by rw [awI_len, awI_len]; omega)
    rw [e3, b2s, x3.ck, obs]
    obtain ⟨M4, e4, x4, f4⟩ := x_aw (N := N) (v := d) hN x3 (by rw [awI_len, awI_len, awI_len]; omega)
    rw [e4, b2s, x4.ck, obs]
    obtain ⟨M5, e5, x5, f5⟩ := x_aw (N := N) (v := e) hN x4 (by rw [awI_len, awI_len, awI_len, awI_len]; omega)
    rw [e5, b2s, (gl x5).1, obs]
    refine ⟨M5, ?_, x5, f1.tr (f2.tr (f3.tr (f4.tr f5)))⟩
    rw [awI_len, awI_len, awI_len, awI_len, awI_len]
  · rw [if_neg (show ¬ nI bf.length ≤ 780 from fun y => q (hq.mp y)), if_neg q]
    exact ⟨M, rfl, h, Fr.rf⟩
end XP
section CE
variable {N : Nat} {M : Mem} {c : Nat} {κ : Cf}
theorem cf_em {r b : Nat} (hb : RwK c r b) (h : CfAt M c κ) : ∃ M', fn_X6_empty N M b = some ((), M') ∧ CfAt M' c (κ.1, va_up κ.2 r []) ∧ Fr M M' c (c + 27) ∧ mm_ck M b 6 = some () := by
  obtain ⟨M', e, r1, f⟩ := row_empty (N := N) (hb.1 M κ h)
  exact ⟨M', e, hb.2.1 M M' κ [] h r1 f, f.mono hb.2.2.1 hb.2.2.2, row_ck (hb.1 M κ h)⟩
theorem cf_eT (h : CfAt M c κ) : ∃ M', fn_X3_empty N M (c + 1) = some ((), M') ∧ CfAt M' c (κ.1, va_up (va_up (va_up (va_up (va_up κ.2 0 []) 1 []) 2 []) 3 []) 4 []) ∧ Fr M M' c (c + 27) ∧ mm_ck M (c + 1) 3 = some () := by
  have hck := h.ct
  unfold fn_X3_empty
  obtain ⟨M1, e1, c1, f1, k1⟩ := cf_em (N := N) (rwk0 (sp := c)) h
  rw [h.t0, obs, k1, obs, e1, b2s]
  obtain ⟨M2, e2, c2, f2, k2⟩ := cf_em (N := N) (rwk1 (sp := c)) c1
  rw [c1.t1, obs, k2, obs, e2, b2s]
  obtain ⟨M3, e3, c3, f3, k3⟩ := cf_em (N := N) (rwk2 (sp := c)) c2
  rw [c2.t2, obs, k3, obs, e3, b2s]
  obtain ⟨M4, e4, c4, f4, k4⟩ := cf_em (N := N) (rwk3 (sp := c)) c3
  rw [c3.t3, obs, k4, obs, e4, b2s]
  obtain ⟨M5, e5, c5, f5, k5⟩ := cf_em (N := N) (rwk4 (sp := c)) c4
  rw [c4.t4, obs, k5, obs, e5, b2s]
  exact ⟨M5, rfl, c5, f1.tr (f2.tr (f3.tr (f4.tr f5))), hck⟩
theorem cf_eF (h : CfAt M c κ) : ∃ M', fn_X3_empty N M (c + 12) = some ((), M') ∧ CfAt M' c (κ.1, va_up (va_up (va_up (va_up (va_up κ.2 5 []) 6 []) 7 []) 8 []) 9 []) ∧ Fr M M' c (c + 27) ∧ mm_ck M (c + 12) 3 = some () := by
  have hck := h.cf
  unfold fn_X3_empty
  obtain ⟨M1, e1, c1, f1, k1⟩ := cf_em (N := N) (rwk5 (sp := c)) h
  rw [h.f0, obs, k1, obs, e1, b2s]
  obtain ⟨M2, e2, c2, f2, k2⟩ := cf_em (N := N) (rwk6 (sp := c)) c1
  rw [c1.f1, obs, k2, obs, e2, b2s]
  obtain ⟨M3, e3, c3, f3, k3⟩ := cf_em (N := N) (rwk7 (sp := c)) c2
  rw [c2.f2, obs, k3, obs, e3, b2s]
  obtain ⟨M4, e4, c4, f4, k4⟩ := cf_em (N := N) (rwk8 (sp := c)) c3
  rw [c3.f3, obs, k4, obs, e4, b2s]
  obtain ⟨M5, e5, c5, f5, k5⟩ := cf_em (N := N) (rwk9 (sp := c)) c4
  rw [c4.f4, obs, k5, obs, e5, b2s]
  exact ⟨M5, rfl, c5, f1.tr (f2.tr (f3.tr (f4.tr f5))), hck⟩
theorem cf_reset (h : CfAt M c κ) : ∃ M', fn_X0_reset N M c = some ((), M') ∧ CfAt M' c kf0 ∧ Fr M M' c (c + 27) := by
  unfold fn_X0_reset
  obtain ⟨M1, e1, c1, f1, k1⟩ := cf_eT (N := N) h
  rw [h.ty, obs, k1, obs, e1, b2s]
  obtain ⟨M2, e2, c2, f2, k2⟩ := cf_eF (N := N) c1
  rw [c1.fk, obs, k2, obs, e2, b2s]
  obtain ⟨M3, e3, c3, f3, k3⟩ := cf_em (N := N) (rwk10 (sp := c)) c2
  rw [c2.bt, obs, k3, obs, e3, b2s]
  obtain ⟨M4, e4, c4, f4, k4⟩ := cf_em (N := N) (rwk11 (sp := c)) c3
  rw [c3.bs, obs, k4, obs, e4, b2s]
  obtain ⟨M5, e5, c5, f5⟩ := c4.n0 4000
  rw [e5, obs]
  obtain ⟨M6, e6, c6, f6⟩ := c5.n1 5
  rw [e6, obs]
  obtain ⟨M7, e7, c7, f7⟩ := c6.n2 100
  rw [e7, obs]
  exact ⟨M7, rfl, ⟨c7.1, c7.2.1, c7.2.2.1, c7.r0, c7.r1, c7.r2, c7.r3, c7.r4, c7.r5, c7.r6, c7.r7, c7.r8, c7.r9, c7.r10, c7.r11⟩, f1.tr (f2.tr (f3.tr (f4.tr ((f5.mono (by omega) (by omega)).tr ((f6.mono (by omega) (by omega)).tr (f7.mono (by omega) (by omega)))))))⟩
end CE
theorem CfAt.ck0 {M : Mem} {c : Nat} {κ : Cf} (h : CfAt M c κ) : mm_ck M c 0 = some () := ev_ck h.1
theorem pa_begin {N : Nat} {M : Mem} {tx : Value} {n1 n2 n3 n4 n5 b1 b2 b3 x : Int32} (h : M[2]? = some (.inr (4, [tx, .int n1, .int n2, .int n3, .int n4, .int n5, .int b1, .int b2, .int b3]))) : ∃ M', fn_X4_begin N M 2 1 x = some ((), M') ∧ M'[2]? = some (.inr (4, paF (fun i => if i = 1 then x else if i = 2 then n2 else if i = 3 then n3 else 0))) ∧ Fr M M' 2 3 := by
  have hz : ∀ (M : Mem) (j : Nat), mm_pZ M 2 4 j 0 = mm_pV M 2 4 j (.int 0) := fun M j => by
    unfold mm_pZ
    rw [if_pos (Or.inl rfl)]
  unfold fn_X4_begin
  obtain ⟨M1, e1, k1, f1⟩ := pv_step (j := 0) (v := .ref 1) h (by simp)
  rw [e1, obs]
  obtain ⟨M2, e2, k2, f2⟩ := pv_step (j := 1) (v := .int x) k1 (by simp)
  rw [e2, obs]
  obtain ⟨M3, e3, k3, f3⟩ := pv_step (j := 4) (v := .int 0) k2 (by simp)
  rw [e3, obs]
  obtain ⟨M4, e4, k4, f4⟩ := pv_step (j := 5) (v := .int 0) k3 (by simp)
  rw [e4, obs]
  obtain ⟨M5, e5, k5, f5⟩ := pv_step (j := 6) (v := .int 0) k4 (by simp)
  rw [hz, e5, obs]
  obtain ⟨M6, e6, k6, f6⟩ := pv_step (j := 7) (v := .int 0) k5 (by simp)
  rw [hz, e6, obs]
  obtain ⟨M7, e7, k7, f7⟩ := pv_step (j := 8) (v := .int 0) k6 (by simp)
  rw [hz, e7, obs]
  exact ⟨M7, rfl, k7, f1.tr (f2.tr (f3.tr (f4.tr (f5.tr (f6.tr f7)))))⟩
/-- the parser before its first token -/
def PGw (n : Nat) (G : Nat → Int32) (p : Ps) : Prop := G 1 = nI n ∧ G 5 = nI p.1 ∧ (p.1 = 0 → G 4 = nI p.2.2 ∧ p.2.2 ≤ n) ∧ p.1 < 10000
section PLw
variable {N : Nat} {gb tb : Nat → Int32} {sp n : Nat} {O : List Value}
theorem x_p40w (hN : 2 ^ 15 ≤ N) (ht : TB gb tb n) (hO2 : O[2]? = some (.ref 2)) (hO4 : O[4]? = some (.ref sp)) (f m : Nat) (p : Ps) (κ : Cf) (fl : Nat → Nat) (M : Mem) (G : Nat → Int32) (h : PAt M gb sp G κ) (hp : PGw n G p) (hfl : FG G fl) (hM : M[0]? = some (.inr (9, O))) (h0 : p.1 = 0) (hi : n + 1 - p.2.2 ≤ f + 1) (hm : f < m) : ∃ M' G', fn_X9_parse_40 N (m + 1) M 0 (nI n) (nI 0) = fn_X9_parse_72 N M' 0 ∧ PAt M' gb sp G' (plS tb n (f + 1) p κ fl).2 ∧ FrP sp M M' ∧ G' 5 = nI (plS tb n (f + 1) p κ fl).1.1 ∧ (plS tb n (f + 1) p κ fl).1.1 < 10000 := by
  have h800 := ht.2.2
  rw [fn_X9_parse_40.eq_2]
  obtain ⟨p7, p8⟩ := hp.2.2.1 h0
  rw [if_neg (nI_nlt (by omega) (by omega)), ev_gR hM hO2, obs, h.ck, obs]
  have hhas : PW gb sp M (fn_X4_hasStatement N M 2) (fun r G' κ' => κ' = κ ∧ r = (if tkK tb n p.2.2 = 0 then 0 else 1) ∧ TkG tb n p.2.2 G G') := by
    unfold fn_X4_hasStatement
    rw [h.i5, obs, hp.2.1, h0, if_pos nI_0, h.ck, obs]
    refine PW.call (pw_tok hN h ht hp.1 p7 p8) ?_
    rintro _ M1 G1 κ1 q1 ⟨rfl, t⟩
    rw [q1.i2, obs, t.2.1]
    by_cases q : tkK tb n p.2.2 = 0
    · rw [if_pos q, if_pos q]
      exact PW.ret q1 ⟨rfl, rfl, t⟩
    · rw [if_neg q, if_neg q]
      exact PW.ret q1 ⟨rfl, rfl, t⟩
  obtain ⟨r, M1, G1, κ1, e1, q1, f1, rfl, rfl, t⟩ := hhas
  rw [e1, b2s, plS, if_pos h0]
  by_cases k0 : tkK tb n p.2.2 = 0
  · rw [if_pos k0, if_pos rfl, if_pos k0]
    exact ⟨M1, G1, rfl, q1, f1, by rw [t.2.2.2.2.1]; exact hp.2.1, hp.2.2.2⟩
  · have hM1 : M1[0]? = some (.inr (9, O)) := by rw [f1.2 0 (by omega) (by have := h.2.2.2; omega)]; exact hM
    obtain ⟨b1, b2, b3, b4, b5, b6, b7⟩ := tk_bd ht.2.1 p8
    have hb := tk_nz ht.2.1 p8 (c := tkK tb n p.2.2) rfl k0
    rw [if_neg k0, if_neg (by decide), if_neg k0, ev_gR hM1 hO2, obs, ev_gR hM1 hO4, obs, q1.ck, obs]
    have hp1 : PG n n G1 (0, tkS tb n p.2.2, tkE tb n p.2.2) := ⟨t.1.trans hp.1, t.2.2.2.2.1.trans (hp.2.1.trans (by rw [h0])), t.2.2.1, fun _ => ⟨t.2.2.2.1, hb.2⟩, by show 0 < 10000; omega, by show tkS tb n p.2.2 ≤ 800; omega⟩
    obtain ⟨r2, M2, G2, κ2, e2, q2, f2, rfl, g2, fl2⟩ := pw_stmt hN q1 ht hp1 rfl b5 t.2.1 (hfl.eq t.2.2.2.2.2.1 t.2.2.2.2.2.2.1 t.2.2.2.2.2.2.2)
    rw [e2, b2s, nI_1]
    have hM2 : M2[0]? = some (.inr (9, O)) := by rw [f2.2 0 (by omega) (by have := h.2.2.2; omega)]; exact hM1
    obtain ⟨M3, G3, z1, z2, z3, z4⟩ := x_p40 hN ht hO2 hO4 f m _ _ _ (0 + 1) M2 G2 q2 g2 fl2 hM2 (fun z => by
      have := (adv_stB ht.2.1 (k := tkK tb n p.2.2) (p := (0, tkS tb n p.2.2, tkE tb n p.2.2)) (κ := κ1) (fl := fl)).tr (adv_sm ht.2.1)
      obtain ⟨-, a2, a3⟩ := this (fun _ => hb.2) z
      have a2' : tkE tb n p.2.2 ≤ _ := a2
      omega) hm (by omega)
    exact ⟨M3, G3, z1, z2, f1.tr (f2.tr z3), z4⟩
end PLw
theorem FrP.split {sp : Nat} {M M' : Mem} {e : mE} (h : FrP sp M M') (h2 : M[2]? = some e) (hsp : 3 ≤ sp) : ∃ M'', Fr M M'' sp (sp + 27) ∧ Fr M'' M' 2 3 := by
  have hl : 2 < M'.length := by rw [h.1]; exact (List.getElem?_eq_some_iff.mp h2).1
  refine ⟨M'.set 2 e, ⟨by rw [List.length_set]; exact h.1, fun b hb => ?_⟩, ⟨by rw [List.length_set], fun b hb => ?_⟩⟩
  · by_cases z : b = 2
    · subst z
      rw [List.getElem?_set_self hl, h2]
    · rw [st_ne (by omega)]
      exact h.2 b z hb
  · rw [st_ne (by omega)]
section XR
variable {N : Nat} {M : Mem} {bf : List Int32} {κ : Cf} {σ : St} {U : List St} {sn : Nat → Option St}
theorem st_reset {c : Nat} (hN : 2 ^ 15 ≤ N) (h : StAt M 58 σ) (hc : CfAt M c κ) (hd : c + 27 ≤ 58) : ∃ M', fn_X7_reset N M 58 c = some ((), M') ∧ StAt M' 58 (st0 κ) ∧ Fr M M' 58 79 := by
  unfold fn_X7_reset
  obtain ⟨M1, e1, s1, f1⟩ := h.num (k := 0) (by decide) 0 (fun z => by omega)
  rw [e1, obs]
  obtain ⟨M2, e2, s2, f2⟩ := s1.num (k := 1) (by decide) 0 (fun z => by omega)
  have c2 := (hc.keep f1 (by omega)).keep f2 (by omega)
  rw [e2, obs, c2.i2, obs]
  obtain ⟨M3, e3, s3, f3⟩ := s2.num (k := 2) (by decide) (κ.1 2) (fun z => by omega)
  rw [e3, obs]
  obtain ⟨M4, e4, s4, f4⟩ := s3.numZ 0 (Or.inl rfl)
  rw [e4, obs]
  obtain ⟨M5, e5, s5, f5⟩ := s4.num (k := 4) (by decide) 0 (fun z => by omega)
  rw [e5, obs, s5.g0, obs, row_ck s5.r0, obs]
  obtain ⟨M6, e6, r6, f6⟩ := row_empty (N := N) s5.r0
  have s6 := s5.u0 r6 f6
  rw [e6, b2s, s6.g1, obs, row_ck s6.r1, obs]
  obtain ⟨M7, e7, r7, f7⟩ := row_empty (N := N) s6.r1
  have s7 := s6.u1 r7 f7
  have c7 := ((((c2.keep f3 (by omega)).keep f4 (by omega)).keep f5 (by omega)).keep f6 (by omega)).keep f7 (by omega)
  have hl := row_len c7.r10
  rw [e7, b2s, s7.g2, obs, c7.bt, obs, row_size c7.r10, obs, row_ck s7.r2, obs]
  obtain ⟨M8, e8, r8, f8⟩ := row_fill (N := N) (n := (κ.2 10).length) s7.r2 hl.1 hN
  have s8 := s7.u2 r8 f8
  rw [e8, b2s, s8.g3, obs, row_ck s8.r3, obs]
  obtain ⟨M9, e9, r9, f9⟩ := row_fill (N := N) (n := 4) s8.r3 (by omega) hN
  have s9 := s8.u3 r9 f9
  rw [show (4 : Int32) = nI 4 from rfl, e9, b2s, s9.g4, obs, row_ck s9.r4, obs]
  obtain ⟨M10, e10, r10, f10⟩ := row_empty (N := N) s9.r4
  have s10 := s9.u4 r10 f10
  rw [e10, b2s, s10.g5, obs, row_ck s10.r5, obs]
  obtain ⟨M11, e11, r11, f11⟩ := row_empty (N := N) s10.r5
  have s11 := s10.u5 r11 f11
  rw [e11, b2s, s11.g6, obs, row_ck s11.r6, obs]
  obtain ⟨M12, e12, r12, f12⟩ := row_empty (N := N) s11.r6
  have s12 := s11.u6 r12 f12
  rw [e12, b2s, s12.g7, obs, row_ck s12.r7, obs]
  obtain ⟨M13, e13, r13, f13⟩ := row_empty (N := N) s12.r7
  have s13 := s12.u7 r13 f13
  rw [e13, b2s, s13.g8, obs, row_ck s13.r8, obs]
  obtain ⟨M14, e14, r14, f14⟩ := row_empty (N := N) s13.r8
  have s14 := s13.u8 r14 f14
  rw [e14, b2s, s14.g9, obs, row_ck s14.r9, obs]
  obtain ⟨M15, e15, r15, f15⟩ := row_empty (N := N) s14.r9
  have s15 := s14.u9 r15 f15
  rw [e15, b2s]
  refine ⟨M15, rfl, ?_, ?_⟩
  · refine StAt.ext s15 (fun k hk => ?_) (fun r hr => ?_)
    · rcases (show k = 0 ∨ k = 1 ∨ k = 2 ∨ k = 3 ∨ k = 4 by omega) with rfl | rfl | rfl | rfl | rfl <;> rfl
    · rcases (show r = 0 ∨ r = 1 ∨ r = 2 ∨ r = 3 ∨ r = 4 ∨ r = 5 ∨ r = 6 ∨ r = 7 ∨ r = 8 ∨ r = 9 by omega) with rfl | rfl | rfl | rfl | rfl | rfl | rfl | rfl | rfl | rfl <;> rfl
  · have g : ∀ {A B : Mem} {lo hi : Nat}, Fr A B lo hi → 58 ≤ lo → hi ≤ 79 → Fr A B 58 79 := fun f h1 h2 => f.mono h1 h2
    exact (g f1 (by omega) (by omega)).tr ((g f2 (by omega) (by omega)).tr ((g f3 (by omega) (by omega)).tr ((g f4 (by omega) (by omega)).tr ((g f5 (by omega) (by omega)).tr ((g f6 (by omega) (by omega)).tr ((g f7 (by omega) (by omega)).tr ((g f8 (by omega) (by omega)).tr ((g f9 (by omega) (by omega)).tr ((g f10 (by omega) (by omega)).tr ((g f11 (by omega) (by omega)).tr ((g f12 (by omega) (by omega)).tr ((g f13 (by omega) (by omega)).tr ((g f14 (by omega) (by omega)).tr (g f15 (by omega) (by omega)))))))))))))))
theorem x_38 {O : List Value} (hN : 2 ^ 15 ≤ N) (hM : M[0]? = some (.inr (9, O))) (hO : O[8]? = some (.ref 376)) (h : SlAt M sn) : ∃ M', fn_X9_takeSpareConfig_38 N N M 0 0 = some ((), M') ∧ SlAt M' (fun _ => none) ∧ Fr M M' 376 377 := by
  obtain ⟨k, hk⟩ : ∃ k, N = k + 1 + 1 + 1 := ⟨N - 3, by omega⟩
  have key : ∀ m, m = k + 1 + 1 + 1 → ∃ M', fn_X9_takeSpareConfig_38 N m M 0 0 = some ((), M') ∧ SlAt M' (fun _ => none) ∧ Fr M M' 376 377 := by
    intro m hm
    subst hm
    obtain ⟨f, v, q1, q2, q3, q4, ⟨t, t1, t2⟩, ⟨u, u1, u2⟩⟩ := h
    rw [fn_X9_takeSpareConfig_38.eq_2, if_neg (by decide), ev_gR hM hO, obs, vp_nar0]
    have e1 : mm_sI M 376 3 0 0 = some (M.set 376 (.inl (3, 2, .inl (upd v 0 0)))) := ev_sI (j := 0) q4 (by decide) (by decide)
    rw [e1, obs]
    have f1 : Fr M (M.set 376 (.inl (3, 2, .inl (upd v 0 0)))) 376 377 := Fr.set (by omega) (by omega)
    have k1 : (M.set 376 (.inl (3, 2, .inl (upd v 0 0))))[376]? = some (.inl (3, 2, .inl (upd v 0 0))) := st_self q4
    generalize M.set 376 (.inl (3, 2, .inl (upd v 0 0))) = M1 at f1 k1 ⊢
    have hM1 : M1[0]? = some (.inr (9, O)) := by rw [f1.2 0 (by omega)]; exact hM
    rw [show (0 : Int32) + 1 = 1 by decide, fn_X9_takeSpareConfig_38.eq_2, if_neg (by decide), ev_gR hM1 hO, obs, vp_nar0]
    have e2 : mm_sI M1 376 3 1 0 = some (M1.set 376 (.inl (3, 2, .inl (upd (upd v 0 0) 1 0)))) := ev_sI (j := 1) k1 (by decide) (by decide)
    rw [e2, obs]
    have f2 : Fr M1 (M1.set 376 (.inl (3, 2, .inl (upd (upd v 0 0) 1 0)))) 376 377 := Fr.set (by omega) (by omega)
    have k2 : (M1.set 376 (.inl (3, 2, .inl (upd (upd v 0 0) 1 0))))[376]? = some (.inl (3, 2, .inl (upd (upd v 0 0) 1 0))) := st_self k1
    generalize M1.set 376 (.inl (3, 2, .inl (upd (upd v 0 0) 1 0))) = M2 at f2 k2 ⊢
    rw [show (1 : Int32) + 1 = 2 by decide, fn_X9_takeSpareConfig_38.eq_2, if_pos (by decide)]
    have f3 := f1.tr f2
    exact ⟨M2, rfl, ⟨f, upd (upd v 0 0) 1 0, by rw [f3.2 333 (by omega)]; exact q1, q2, q3, k2, ⟨t, t1.keep f3 (by omega), Or.inl ⟨rfl, rfl⟩⟩, ⟨u, u1.keep f3 (by omega), Or.inl ⟨rfl, rfl⟩⟩⟩, f3⟩
  exact key N hk
theorem x_parse (hN : 2 ^ 15 ≤ N) (h : XAt M bf κ σ U sn) (x : Int32) : ∃ M', fn_X9_parse N M 0 x = some ((paI (bf, κ, σ, U, sn) x).1, M') ∧ XAt M' (paI (bf, κ, σ, U, sn) x).2.1 (paI (bf, κ, σ, U, sn) x).2.2.1 (paI (bf, κ, σ, U, sn) x).2.2.2.1 (paI (bf, κ, σ, U, sn) x).2.2.2.2.1 (paI (bf, κ, σ, U, sn) x).2.2.2.2.2 ∧ Fr M M' 0 389 := by
  have h' := h
  obtain ⟨cf, sp, κ', h1, h2, ⟨g, b1, b2, b3⟩, h4, h5, h6, h7, h8, h9⟩ := h
  have hsp : 4 ≤ sp ∧ sp + 27 ≤ 58 ∧ 4 ≤ cf ∧ cf + 27 ≤ 58 ∧ (sp + 27 ≤ cf ∨ cf + 27 ≤ sp) := by omega
  unfold fn_X9_parse
  by_cases g0 : x < 0
  · rw [if_pos g0, paI_no (s := (bf, κ, σ, U, sn)) (fun z => Int32.not_lt.mpr z.1 g0)]
    exact ⟨M, rfl, h', Fr.rf⟩
  · rw [if_neg g0, ev_gI h1 rfl, obs]
    by_cases g1 : x ≤ nI bf.length
    · obtain ⟨n, hn, rfl⟩ : ∃ n, n ≤ bf.length ∧ x = nI n := nI_of2 (nI_toInt (by omega)) g0 g1
      rw [if_pos g1]
      obtain ⟨M2, e2, k2, f2⟩ := pv_step (j := 1) (v := .int 0) h1 (by simp)
      have c2 := h5.keep f2 (by omega)
      obtain ⟨M4, e4, c4, f4⟩ := cf_reset (N := N) c2
      have k4 := k2
      rw [← f4.2 0 (by omega)] at k4
      rw [e2, obs, ev_gR k2 rfl, obs, c2.ck0, obs, e4, b2s, ev_gR k4 rfl, obs, ev_gR k4 rfl, obs]
      obtain ⟨⟨tx, n1, n2, n3, n4, n5, d1, d2, d3, hp⟩, hs2⟩ := h9
      have hp4 : M4[2]? = some (.inr (4, [tx, .int n1, .int n2, .int n3, .int n4, .int n5, .int d1, .int d2, .int d3])) := by rw [f4.2 2 (by omega), f2.2 2 (by omega)]; exact hp
      obtain ⟨M7, e7, k7, f7⟩ := pa_begin (N := N) (x := nI n) hp4
      rw [ev_ck hp4, obs, e7, b2s]
      have b7 : M7[1]? = some (.inl (2, 800, .inl g)) := by rw [f7.2 1 (by omega), f4.2 1 (by omega), f2.2 1 (by omega)]; exact b1
      have k7' : M7[0]? = some (.inr (9, [.ref 1, .int 0, .ref 2, .ref cf, .ref sp, .ref 58, .ref 79, .ref 333, .ref 376, .ref 377, .ref 378, .ref 384])) := by rw [f7.2 0 (by omega)]; exact k4
      have hPA : PAt M7 g sp (fun i => if i = 1 then nI n else if i = 2 then n2 else if i = 3 then n3 else 0) kf0 := ⟨k7, b7, c4.keep f7 (by omega), by omega⟩
      have ht : TB g (tbO bf n) n := tbO_TB b3 hn b2
      obtain ⟨m, hm⟩ : ∃ m, N = m + 1 := ⟨N - 1, by omega⟩
      have key : ∀ q, q = m + 1 → ∃ M' G', fn_X9_parse_40 N q M7 0 (nI n) 0 = fn_X9_parse_72 N M' 0 ∧ PAt M' g sp G' (psI bf n).2 ∧ FrP sp M7 M' ∧ G' 5 = nI (psI bf n).1.1 ∧ (psI bf n).1.1 < 10000 := by
        intro q hq
        subst hq
        exact x_p40w (N := N) hN ht (O := [.ref 1, .int 0, .ref 2, .ref cf, .ref sp, .ref 58, .ref 79, .ref 333, .ref 376, .ref 377, .ref 378, .ref 384]) rfl rfl n m (0, 0, 0) kf0 (fun _ => 0) M7 _ hPA ⟨rfl, rfl, fun _ => ⟨rfl, Nat.zero_le _⟩, by decide⟩ ⟨⟨rfl, by decide⟩, ⟨rfl, by decide⟩, ⟨rfl, by decide⟩⟩ k7' rfl (by show n + 1 - 0 ≤ n + 1; omega) (by omega)
      obtain ⟨M', G', e8, p8, f8, g8, g9⟩ := key N hm
      rw [e8]
      obtain ⟨Mi, fi, fj⟩ := f8.split k7 (by omega)
      have k8 : M'[0]? = some (.inr (9, [.ref 1, .int 0, .ref 2, .ref cf, .ref sp, .ref 58, .ref 79, .ref 333, .ref 376, .ref 377, .ref 378, .ref 384])) := by rw [f8.2 0 (by omega) (by omega)]; exact k7'
      have cC : CfAt M' cf κ := ((((h4.keep f2 (by omega)).keep f4 (by omega)).keep f7 (by omega)).keep fi (by omega)).keep fj (by omega)
      have sC : StAt M' 58 σ := ((((h6.keep f2 (by omega)).keep f4 (by omega)).keep f7 (by omega)).keep fi (by omega)).keep fj (by omega)
      have hC : HiAt M' U := ((((h7.keep f2 (by omega)).keep f4 (by omega)).keep f7 (by omega)).keep fi (by omega)).keep fj (by omega)
      have lC : SlAt M' sn := ((((h8.keep f2 (by omega)).keep f4 (by omega)).keep f7 (by omega)).keep fi (by omega)).keep fj (by omega)
      have wC : ScAt M' := by
        have z0 : ScAt M := ⟨⟨tx, n1, n2, n3, n4, n5, d1, d2, d3, hp⟩, hs2⟩
        have z1 : ScAt M4 := (z0.keep f2 (by omega)).keep f4 (by omega)
        have z2 : ∀ b, 377 ≤ b → M'[b]? = M4[b]? := fun b hb => by rw [f8.2 b (by omega) (by omega), f7.2 b (by omega)]
        obtain ⟨-, y2, y3, y4, y5, y6, ⟨l, y7⟩, y8, ⟨l2, y9⟩, ⟨l3, y10⟩⟩ := z1
        have rk : ∀ {a c : Nat} {l : List Int32}, 377 ≤ a → RowAt M4 a c l → RowAt M' a c l := by
          intro a c l ha ⟨f, r1, r2, r3⟩
          exact ⟨f, by rw [z2 a ha]; exact r1, by rw [z2 (a + 1) (by omega)]; exact r2, r3⟩
        exact ⟨⟨.ref 1, G' 1, G' 2, G' 3, G' 4, G' 5, G' 6, G' 7, G' 8, p8.1⟩, by rw [z2 377 (by omega)]; exact y2, by rw [z2 378 (by omega)]; exact y3, by rw [z2 379 (by omega)]; exact y4, by rw [z2 380 (by omega)]; exact y5, by rw [z2 381 (by omega)]; exact y6, ⟨l, rk (by omega) y7⟩, by rw [z2 384 (by omega)]; exact y8, ⟨l2, rk (by omega) y9⟩, ⟨l3, rk (by omega) y10⟩⟩
      have fC : Fr M M' 0 389 := (f2.mono (by omega) (by omega)).tr ((f4.mono (by omega) (by omega)).tr ((f7.mono (by omega) (by omega)).tr ((fi.mono (by omega) (by omega)).tr (fj.mono (by omega) (by omega)))))
      unfold fn_X9_parse_72
      rw [ev_gR k8 rfl, obs, p8.i5, obs, g8]
      by_cases e0 : (psI bf n).1.1 = 0
      · rw [if_pos (by rw [e0, nI_0]), paI_ok (s := (bf, κ, σ, U, sn)) hn b2 e0, ev_ck k8, obs]
        unfold fn_X9_takeSpareConfig
        obtain ⟨M9, e9, k9, f9⟩ := pv_step (j := 4) (v := .ref cf) k8 (by simp)
        obtain ⟨M10, e10, k10, f10⟩ := pv_step (j := 3) (v := .ref sp) k9 (by simp)
        have k10' : M10[0]? = some (.inr (9, [.ref 1, .int 0, .ref 2, .ref sp, .ref cf, .ref 58, .ref 79, .ref 333, .ref 376, .ref 377, .ref 378, .ref 384])) := k10
        have f11 := f9.tr f10
        have s10 := sC.keep f11 (by omega)
        have p10 : CfAt M10 sp (psI bf n).2 := p8.2.2.1.keep f11 (by omega)
        rw [ev_gR k8 rfl, obs, ev_gR k8 rfl, obs, e9, obs, e10, obs, ev_gR k10' rfl, obs, ev_gR k10' rfl, obs, s10.ck, obs]
        obtain ⟨M12, e12, s12, f12⟩ := st_reset (N := N) hN s10 p10 (by omega)
        have k12 : M12[0]? = some (.inr (9, [.ref 1, .int 0, .ref 2, .ref sp, .ref cf, .ref 58, .ref 79, .ref 333, .ref 376, .ref 377, .ref 378, .ref 384])) := by rw [f12.2 0 (by omega)]; exact k10'
        have h12 := (hC.keep f11 (by omega)).keep f12 (by omega)
        rw [e12, b2s, ev_gR k12 rfl, obs, h12.ck, obs]
        obtain ⟨M13, e13, h13, f13⟩ := hi_forget (N := N) h12
        have k13 : M13[0]? = some (.inr (9, [.ref 1, .int 0, .ref 2, .ref sp, .ref cf, .ref 58, .ref 79, .ref 333, .ref 376, .ref 377, .ref 378, .ref 384])) := by rw [f13.2 0 (by omega)]; exact k12
        have l13 := ((lC.keep f11 (by omega)).keep f12 (by omega)).keep f13 (by omega)
        rw [e13, b2s]
        obtain ⟨M14, e14, l14, f14⟩ := x_38 (N := N) hN k13 rfl l13
        have k14 : M14[0]? = some (.inr (9, [.ref 1, .int 0, .ref 2, .ref sp, .ref cf, .ref 58, .ref 79, .ref 333, .ref 376, .ref 377, .ref 378, .ref 384])) := by rw [f14.2 0 (by omega)]; exact k13
        have p14 : CfAt M14 sp (psI bf n).2 := ((p10.keep f12 (by omega)).keep f13 (by omega)).keep f14 (by omega)
        rw [e14, b2s, ev_gR k14 rfl, obs, p14.ty, obs, p14.ct, obs]
        have ec : fn_X3_count N M14 (sp + 1) = some (nI ((psI bf n).2.2 0).length, M14) := by
          unfold fn_X3_count
          simp only [p14.t0, row_size p14.r0, Option.bind_some]
        rw [ec, b2s]
        refine ⟨M14, rfl, ⟨sp, cf, κ, k14, by omega, ⟨g, ?_, Nat.zero_le _, fun i hi => absurd hi (Nat.not_lt_zero _)⟩, p14, (((cC.keep f11 (by omega)).keep f12 (by omega)).keep f13 (by omega)).keep f14 (by omega), (s12.keep f13 (by omega)).keep f14 (by omega), h13.keep f14 (by omega), l14, (((wC.keep f11 (by omega)).keep f12 (by omega)).keep f13 (by omega)).keep f14 (by omega)⟩, ?_⟩
        · rw [f14.2 1 (by omega), f13.2 1 (by omega), f12.2 1 (by omega), f11.2 1 (by omega)]
          exact p8.2.1
        · exact fC.tr ((f11.mono (by omega) (by omega)).tr ((f12.mono (by omega) (by omega)).tr ((f13.mono (by omega) (by omega)).tr (f14.mono (by omega) (by omega)))))
      · rw [if_neg (fun z => e0 ((nI_eq (a := (psI bf n).1.1) (b := 0) (by omega) (by omega)).mp (z.trans nI_0.symm))), obs, p8.i5, obs, g8, paI_er (s := (bf, κ, σ, U, sn)) hn b2 e0]
        exact ⟨M', rfl, ⟨cf, sp, _, k8, h2, ⟨g, p8.2.1, Nat.zero_le _, fun i hi => absurd hi (Nat.not_lt_zero _)⟩, cC, p8.2.2.1, sC, hC, lC, wC⟩, fC⟩
    · rw [if_neg g1, paI_no (s := (bf, κ, σ, U, sn)) (fun z => g1 z.2)]
      exact ⟨M, rfl, h', Fr.rf⟩
end XR
