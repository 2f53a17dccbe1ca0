/-! PURE: the constructors -/
theorem nms {ρ : Type} {a : Nat} {M : Mem} {K : Nat → Mem → Option ρ} : mm_nm a M K = K a M := rfl
theorem ap_lt {M : Mem} {e : mE} {b : Nat} (h : b < M.length) : (M ++ [e])[b]? = M[b]? := List.getElem?_append_left h
theorem ap_eq {M : Mem} {e : mE} : (M ++ [e])[M.length]? = some e := by simp
theorem ap_len {M : Mem} {e : mE} : (M ++ [e]).length = M.length + 1 := by simp
theorem ev_nA {M : Mem} {lim n : Nat} {x : Int32} {e : Nat → mE} (hx : x = nI n) (hn : n ≤ lim) (hl : n < 2 ^ 31) : mm_nA M lim x e = some (M.length, M ++ [e n]) := by
  subst hx
  unfold mm_nA
  rw [nI_clamp hl, if_neg (fun q => by
    rcases q with q | q
    · exact nI_pos hl q
    · omega)]
/-- M' goes on from M, but for the cell a -/
def Gw (M M' : Mem) (a k : Nat) : Prop := M'.length = M.length + k ∧ ∀ b, b < M.length → b ≠ a → M'[b]? = M[b]?
theorem Gw.tr {M M' M'' : Mem} {a k k' : Nat} (h : Gw M M' a k) (g : Gw M' M'' a k') : Gw M M'' a (k + k') := ⟨by rw [g.1, h.1]; omega, fun b hb hn => (g.2 b (by rw [h.1]; omega) hn).trans (h.2 b hb hn)⟩
theorem Gw.rf {M : Mem} {a : Nat} : Gw M M a 0 := ⟨rfl, fun _ _ _ => rfl⟩
theorem lt_of_some {M : Mem} {a : Nat} {e : mE} (h : M[a]? = some e) : a < M.length := (List.getElem?_eq_some_iff.mp h).1
theorem RowAt.pt {M M' : Mem} {a c : Nat} {l : List Int32} (h : RowAt M a c l) (h1 : M'[a]? = M[a]?) (h2 : M'[a + 1]? = M[a + 1]?) : RowAt M' a c l := by
  obtain ⟨f, r1, r2, r3⟩ := h
  exact ⟨f, h1.trans r1, h2.trans r2, r3⟩
theorem RowAt.gw {M M' : Mem} {a c b k : Nat} {l : List Int32} (h : RowAt M a c l) (g : Gw M M' b k) (hb : b < a ∨ a + 2 ≤ b) : RowAt M' a c l := by
  obtain ⟨f, r1, r2, r3⟩ := h
  exact ⟨f, by rw [g.2 a (lt_of_some r1) (by omega)]; exact r1, by rw [g.2 (a + 1) (lt_of_some r2) (by omega)]; exact r2, r3⟩
theorem StAt.gw {M M' : Mem} {s b k : Nat} {σ : St} (h : StAt M s σ) (g : Gw M M' b k) (hb : b < s ∨ s + 21 ≤ b) : StAt M' s σ := ⟨by rw [g.2 s (lt_of_some h.1) (by omega)]; exact h.1, h.2.1, fun r hr => (h.2.2 r hr).gw g (by omega)⟩
theorem CfAt.gw {M M' : Mem} {c b k : Nat} {κ : Cf} (h : CfAt M c κ) (g : Gw M M' b k) (hb : b < c ∨ c + 27 ≤ b) : CfAt M' c κ := ⟨by rw [g.2 c (lt_of_some h.1) (by omega)]; exact h.1, by rw [g.2 (c + 1) (lt_of_some h.2.1) (by omega)]; exact h.2.1, by rw [g.2 (c + 12) (lt_of_some h.2.2.1) (by omega)]; exact h.2.2.1, h.r0.gw g (by omega), h.r1.gw g (by omega), h.r2.gw g (by omega), h.r3.gw g (by omega), h.r4.gw g (by omega), h.r5.gw g (by omega), h.r6.gw g (by omega), h.r7.gw g (by omega), h.r8.gw g (by omega), h.r9.gw g (by omega), h.r10.gw g (by omega), h.r11.gw g (by omega)⟩
section CO
variable {N : Nat}
theorem new_row {M : Mem} {x : Int32} {c : Nat} (hx : x = nI c) (hc : c ≤ 60) : ∃ M', fn_X6_init N (M ++ [.inr (6, [.null, .int 0])]) M.length x = some ((), M') ∧ RowAt M' M.length c [] ∧ M'.length = M.length + 2 ∧ ∀ b, b < M.length → M'[b]? = M[b]? := by
  subst hx
  have e0 : (if (0 : Int32) < nI c then nI c else 0) = nI c := by
    by_cases z : c = 0
    · subst z; decide
    · rw [if_pos (by have := nI_lt (show 0 < c by omega) (by omega); rwa [nI_0] at this)]
  unfold fn_X6_init
  rw [mm_lt, e0, ev_nA rfl hc (by omega), b2s]
  have k0 : ((M ++ [.inr (6, [.null, .int 0])]) ++ [(.inl (0, c, .inl (fun _ => 0)) : mE)])[M.length]? = some (.inr (6, [.null, .int 0])) := by rw [ap_lt (by rw [ap_len]; omega)]; exact ap_eq
  have k1 : ((M ++ [.inr (6, [.null, .int 0])]) ++ [(.inl (0, c, .inl (fun _ => 0)) : mE)])[M.length + 1]? = some (.inl (0, c, .inl (fun _ => 0))) := by
    have := ap_eq (M := M ++ [.inr (6, [.null, .int 0])]) (e := .inl (0, c, .inl (fun _ => 0)))
    rw [ap_len] at this
    exact this
  have k2 : ∀ b, b < M.length → ((M ++ [.inr (6, [.null, .int 0])]) ++ [(.inl (0, c, .inl (fun _ => 0)) : mE)])[b]? = M[b]? := fun b hb => by rw [ap_lt (by rw [ap_len]; omega), ap_lt hb]
  have k3 : ((M ++ [(.inr (6, [.null, .int 0]) : mE)]) ++ [(.inl (0, c, .inl (fun _ => 0)) : mE)]).length = M.length + 2 := by rw [ap_len, ap_len]
  rw [ap_len]
  generalize (M ++ [.inr (6, [.null, .int 0])]) ++ [(.inl (0, c, .inl (fun _ => 0)) : mE)] = M2 at k0 k1 k2 k3 ⊢
  obtain ⟨M3, e3, q3, f3⟩ := pv_step (j := 0) (v := .ref (M.length + 1)) k0 (by simp)
  rw [e3, obs]
  exact ⟨M3, rfl, ⟨fun _ => 0, q3, by rw [f3.2 _ (by omega)]; exact k1, Nat.zero_le _, by omega, fun i hi => absurd hi (Nat.not_lt_zero _)⟩, by rw [f3.1, k3], fun b hb => by rw [f3.2 b (by omega)]; exact k2 b hb⟩
theorem row_fld {M : Mem} {a ci j c : Nat} {fs : List Value} {x : Int32} (h : M[a]? = some (.inr (ci, fs))) (hj : j < fs.length) (hx : x = nI c) (hc : c ≤ 60) : ∃ M', (∀ (ρ : Type) (K : Mem → Option ρ), (mm_nm M.length (M ++ [.inr (6, [.null, .int 0])]) fun b1 M2 => mm_b2 (fn_X6_init N M2 b1 x) fun _ M3 => (mm_pV M3 a ci j (.ref b1)).bind K) = K M') ∧ M'[a]? = some (.inr (ci, fs.set j (.ref M.length))) ∧ RowAt M' M.length c [] ∧ Gw M M' a 2 := by
  have ha := lt_of_some h
  obtain ⟨M1, e1, r1, l1, p1⟩ := new_row (N := N) (M := M) hx hc
  have h1 : M1[a]? = some (.inr (ci, fs)) := by rw [p1 a ha]; exact h
  obtain ⟨M2, e2, k2, f2⟩ := pv_step (j := j) (v := .ref M.length) h1 hj
  refine ⟨M2, fun ρ K => ?_, k2, r1.keep f2 (by omega), by rw [f2.1, l1], fun b hb hn => by rw [f2.2 b (by omega)]; exact p1 b hb⟩
  rw [nms, e1, b2s, e2, obs]
theorem new_kinds {M : Mem} {a c : Nat} {x : Int32} (h : M[a]? = some (.inr (3, [.null, .null, .null, .null, .null]))) (hl : M.length = a + 1) (hx : x = nI c) (hc : c ≤ 60) : ∃ M', fn_X3_init N M a x = some ((), M') ∧ M'[a]? = some (.inr (3, [.ref (a + 1), .ref (a + 3), .ref (a + 5), .ref (a + 7), .ref (a + 9)])) ∧ (RowAt M' (a + 1) c [] ∧ RowAt M' (a + 3) c [] ∧ RowAt M' (a + 5) c [] ∧ RowAt M' (a + 7) c [] ∧ RowAt M' (a + 9) c []) ∧ Gw M M' a 10 := by
  unfold fn_X3_init
  obtain ⟨M1, e1, k1, r1, g1⟩ := row_fld (N := N) (j := 0) (c := c) h (by simp) hx hc
  rw [e1]
  have l1 : M1.length = a + 3 := by rw [g1.1, hl]
  rw [hl] at k1 r1
  obtain ⟨M2, e2, k2, r2, g2⟩ := row_fld (N := N) (j := 1) (c := c) k1 (by simp) hx hc
  rw [e2]
  have l2 : M2.length = a + 5 := by rw [g2.1, l1]
  rw [l1] at k2 r2
  obtain ⟨M3, e3, k3, r3, g3⟩ := row_fld (N := N) (j := 2) (c := c) k2 (by simp) hx hc
  rw [e3]
  have l3 : M3.length = a + 7 := by rw [g3.1, l2]
  rw [l2] at k3 r3
  obtain ⟨M4, e4, k4, r4, g4⟩ := row_fld (N := N) (j := 3) (c := c) k3 (by simp) hx hc
  rw [e4]
  have l4 : M4.length = a + 9 := by rw [g4.1, l3]
  rw [l3] at k4 r4
  obtain ⟨M5, e5, k5, r5, g5⟩ := row_fld (N := N) (j := 4) (c := c) k4 (by simp) hx hc
  rw [e5]
  have l5 : M5.length = a + 11 := by rw [g5.1, l4]
  rw [l4] at k5 r5
  exact ⟨M5, rfl, k5, ⟨(((r1.gw g2 (by omega)).gw g3 (by omega)).gw g4 (by omega)).gw g5 (by omega), ((r2.gw g3 (by omega)).gw g4 (by omega)).gw g5 (by omega), (r3.gw g4 (by omega)).gw g5 (by omega), r4.gw g5 (by omega), r5⟩, g1.tr (g2.tr (g3.tr (g4.tr g5)))⟩
theorem kinds_fld {M : Mem} {a j c : Nat} {fs : List Value} {x : Int32} (h : M[a]? = some (.inr (0, fs))) (hj : j < fs.length) (hx : x = nI c) (hc : c ≤ 60) : ∃ M', (∀ (ρ : Type) (K : Mem → Option ρ), (mm_nm M.length (M ++ [.inr (3, [.null, .null, .null, .null, .null])]) fun b1 M2 => mm_b2 (fn_X3_init N M2 b1 x) fun _ M3 => (mm_pV M3 a 0 j (.ref b1)).bind K) = K M') ∧ M'[a]? = some (.inr (0, fs.set j (.ref M.length))) ∧ M'[M.length]? = some (.inr (3, [.ref (M.length + 1), .ref (M.length + 3), .ref (M.length + 5), .ref (M.length + 7), .ref (M.length + 9)])) ∧ (RowAt M' (M.length + 1) c [] ∧ RowAt M' (M.length + 3) c [] ∧ RowAt M' (M.length + 5) c [] ∧ RowAt M' (M.length + 7) c [] ∧ RowAt M' (M.length + 9) c []) ∧ Gw M M' a 11 := by
  have ha := lt_of_some h
  obtain ⟨M1, e1, k1, ⟨r1, r2, r3, r4, r5⟩, g1⟩ := new_kinds (N := N) (M := M ++ [.inr (3, [.null, .null, .null, .null, .null])]) (a := M.length) ap_eq ap_len hx hc
  have h1 : M1[a]? = some (.inr (0, fs)) := by rw [g1.2 a (by rw [ap_len]; omega) (by omega), ap_lt ha]; exact h
  obtain ⟨M2, e2, k2, f2⟩ := pv_step (j := j) (v := .ref M.length) h1 hj
  refine ⟨M2, fun ρ K => ?_, k2, by rw [f2.2 _ (by omega)]; exact k1, ⟨r1.keep f2 (by omega), r2.keep f2 (by omega), r3.keep f2 (by omega), r4.keep f2 (by omega), r5.keep f2 (by omega)⟩, by rw [f2.1, g1.1, ap_len], fun b hb hn => by rw [f2.2 b (by omega), g1.2 b (by rw [ap_len]; omega) (by omega), ap_lt hb]⟩
  rw [nms, e1, b2s, e2, obs]
theorem new_cf {M : Mem} {a : Nat} (h : M[a]? = some (.inr (0, [.null, .null, .null, .null, .int 0, .int 0, .int 0]))) (hl : M.length = a + 1) : ∃ M', fn_X0_init N M a = some ((), M') ∧ CfAt M' a kf0 ∧ Gw M M' a 26 := by
  unfold fn_X0_init
  obtain ⟨M1, e1, k1, m1, ⟨r0, r1, r2, r3, r4⟩, g1⟩ := kinds_fld (N := N) (j := 0) (c := 8) (x := 8) h (by simp) rfl (by omega)
  rw [e1]
  have l1 : M1.length = a + 12 := by rw [g1.1, hl]
  rw [hl] at k1 m1 r0 r1 r2 r3 r4
  obtain ⟨M2, e2, k2, m2, ⟨r5, r6, r7, r8, r9⟩, g2⟩ := kinds_fld (N := N) (j := 1) (c := 4) (x := 4) k1 (by simp) rfl (by omega)
  rw [e2]
  have l2 : M2.length = a + 23 := by rw [g2.1, l1]
  rw [l1] at k2 m2 r5 r6 r7 r8 r9
  obtain ⟨M3, e3, k3, r10, g3⟩ := row_fld (N := N) (j := 2) (c := 8) (x := 8) k2 (by simp) rfl (by omega)
  rw [e3]
  have l3 : M3.length = a + 25 := by rw [g3.1, l2]
  rw [l2] at k3 r10
  obtain ⟨M4, e4, k4, r11, g4⟩ := row_fld (N := N) (j := 3) (c := 8) (x := 8) k3 (by simp) rfl (by omega)
  rw [e4]
  rw [l3] at k4 r11
  obtain ⟨M5, e5, k5, f5⟩ := pv_step (j := 4) (v := .int 4000) k4 (by simp)
  rw [e5, obs]
  obtain ⟨M6, e6, k6, f6⟩ := pv_step (j := 5) (v := .int 5) k5 (by simp)
  rw [e6, obs]
  obtain ⟨M7, e7, k7, f7⟩ := pv_step (j := 6) (v := .int 100) k6 (by simp)
  rw [e7, obs]
  have f8 := f5.tr (f6.tr f7)
  have g8 : Gw M4 M7 a 0 := ⟨f8.1, fun b _ hn => f8.2 b (by omega)⟩
  have w1 : ∀ {q c : Nat} {l : List Int32}, RowAt M1 q c l → a < q → RowAt M7 q c l := fun r hq => (((r.gw g2 (by omega)).gw g3 (by omega)).gw g4 (by omega)).gw g8 (by omega)
  have w2 : ∀ {q c : Nat} {l : List Int32}, RowAt M2 q c l → a < q → RowAt M7 q c l := fun r hq => ((r.gw g3 (by omega)).gw g4 (by omega)).gw g8 (by omega)
  refine ⟨M7, rfl, ⟨k7, ?_, ?_, w1 r0 (by omega), w1 r1 (by omega), w1 r2 (by omega), w1 r3 (by omega), w1 r4 (by omega), w2 r5 (by omega), w2 r6 (by omega), w2 r7 (by omega), w2 r8 (by omega), w2 r9 (by omega), (r10.gw g4 (by omega)).gw g8 (by omega), r11.gw g8 (by omega)⟩, g1.tr (g2.tr (g3.tr (g4.tr g8)))⟩
  · rw [(g2.tr (g3.tr (g4.tr g8))).2 (a + 1) (lt_of_some m1) (by omega)]
    exact m1
  · rw [(g3.tr (g4.tr g8)).2 (a + 12) (lt_of_some m2) (by omega)]
    exact m2
theorem new_st {M : Mem} {a : Nat} (hN : 2 ^ 15 ≤ N) (h : M[a]? = some (.inr (7, [.int 0, .int 0, .int 0, .int 0, .int 0, .null, .null, .null, .null, .null, .null, .null, .null, .null, .null]))) (hl : M.length = a + 1) : ∃ M', fn_X7_init N M a = some ((), M') ∧ StAt M' a (st0 kf0) ∧ Gw M M' a 20 := by
  unfold fn_X7_init
  obtain ⟨M0, e0, k0, f0⟩ := pv_step (j := 2) (v := .int 100) h (by simp)
  rw [e0, obs]
  have g0 : Gw M M0 a 0 := ⟨f0.1, fun b _ hn => f0.2 b (by omega)⟩
  have l0 : M0.length = a + 1 := by rw [g0.1, hl]
  obtain ⟨M1, e1, k1, r1, g1⟩ := row_fld (N := N) (j := 5) (c := 60) (x := 60) k0 (by simp) rfl (by omega)
  rw [e1]
  have l1 : M1.length = a + 3 := by rw [g1.1, l0]
  rw [l0] at k1 r1
  obtain ⟨M2, e2, k2, r2, g2⟩ := row_fld (N := N) (j := 6) (c := 20) (x := 20) k1 (by simp) rfl (by omega)
  rw [e2]
  have l2 : M2.length = a + 5 := by rw [g2.1, l1]
  rw [l1] at k2 r2
  obtain ⟨M3, e3, k3, r3, g3⟩ := row_fld (N := N) (j := 7) (c := 8) (x := 8) k2 (by simp) rfl (by omega)
  rw [e3]
  have l3 : M3.length = a + 7 := by rw [g3.1, l2]
  rw [l2] at k3 r3
  obtain ⟨M4, e4, k4, r4, g4⟩ := row_fld (N := N) (j := 8) (c := 4) (x := 4) k3 (by simp) rfl (by omega)
  rw [e4]
  have l4 : M4.length = a + 9 := by rw [g4.1, l3]
  rw [l3] at k4 r4
  obtain ⟨Mz, ez, rz, fz⟩ := row_fill (N := N) (n := 4) r4 (by omega) hN
  have gr : mm_gR M4 a 7 8 = some (a + 7) := ev_gR k4 rfl
  rw [gr, obs, row_ck r4, obs, show (4 : Int32) = nI 4 from rfl, ez, b2s]
  have kz : Mz[a]? = _ := (fz.2 a (by omega)).trans k4
  have lz : Mz.length = a + 9 := by rw [fz.1, l4]
  have gz : Gw M Mz a 8 := ⟨by rw [lz, hl], fun b hb hn => by rw [fz.2 b (by omega)]; exact (g0.tr (g1.tr (g2.tr (g3.tr g4)))).2 b hb hn⟩
  have z1 := (((r1.gw g2 (by omega)).gw g3 (by omega)).gw g4 (by omega)).keep fz (by omega)
  have z2 := ((r2.gw g3 (by omega)).gw g4 (by omega)).keep fz (by omega)
  have z3 := (r3.gw g4 (by omega)).keep fz (by omega)
  obtain ⟨M5, e5, k5, r5, g5⟩ := row_fld (N := N) (j := 9) (c := 40) (x := 40) kz (by simp) rfl (by omega)
  rw [e5]
  have l5 : M5.length = a + 11 := by rw [g5.1, lz]
  rw [lz] at k5 r5
  obtain ⟨M6, e6, k6, r6, g6⟩ := row_fld (N := N) (j := 10) (c := 30) (x := 30) k5 (by simp) rfl (by omega)
  rw [e6]
  have l6 : M6.length = a + 13 := by rw [g6.1, l5]
  rw [l5] at k6 r6
  obtain ⟨M7, e7, k7, r7, g7⟩ := row_fld (N := N) (j := 11) (c := 30) (x := 30) k6 (by simp) rfl (by omega)
  rw [e7]
  have l7 : M7.length = a + 15 := by rw [g7.1, l6]
  rw [l6] at k7 r7
  obtain ⟨M8, e8, k8, r8, g8⟩ := row_fld (N := N) (j := 12) (c := 30) (x := 30) k7 (by simp) rfl (by omega)
  rw [e8]
  have l8 : M8.length = a + 17 := by rw [g8.1, l7]
  rw [l7] at k8 r8
  obtain ⟨M9, e9, k9, r9, g9⟩ := row_fld (N := N) (j := 13) (c := 40) (x := 40) k8 (by simp) rfl (by omega)
  rw [e9]
  have l9 : M9.length = a + 19 := by rw [g9.1, l8]
  rw [l8] at k9 r9
  obtain ⟨M10, e10, k10, r10, g10⟩ := row_fld (N := N) (j := 14) (c := 40) (x := 40) k9 (by simp) rfl (by omega)
  rw [e10]
  have l10 : M10.length = a + 21 := by rw [g10.1, l9]
  rw [l9] at k10 r10
  refine ⟨M10, rfl, ⟨k10, Or.inl rfl, fun r hr => ?_⟩, gz.tr (g5.tr (g6.tr (g7.tr (g8.tr (g9.tr g10)))))⟩
  rcases (show r = 0 ∨ r = 1 ∨ r = 2 ∨ r = 3 ∨ r = 4 ∨ r = 5 ∨ r = 6 ∨ r = 7 ∨ r = 8 ∨ r = 9 by omega) with rfl | rfl | rfl | rfl | rfl | rfl | rfl | rfl | rfl | rfl
  · exact ((((((z1).gw g5 (by omega)).gw g6 (by omega)).gw g7 (by omega)).gw g8 (by omega)).gw g9 (by omega)).gw g10 (by omega)
  · exact ((((((z2).gw g5 (by omega)).gw g6 (by omega)).gw g7 (by omega)).gw g8 (by omega)).gw g9 (by omega)).gw g10 (by omega)
  · exact ((((((z3).gw g5 (by omega)).gw g6 (by omega)).gw g7 (by omega)).gw g8 (by omega)).gw g9 (by omega)).gw g10 (by omega)
  · exact ((((((rz).gw g5 (by omega)).gw g6 (by omega)).gw g7 (by omega)).gw g8 (by omega)).gw g9 (by omega)).gw g10 (by omega)
  · exact (((((r5).gw g6 (by omega)).gw g7 (by omega)).gw g8 (by omega)).gw g9 (by omega)).gw g10 (by omega)
  · exact ((((r6).gw g7 (by omega)).gw g8 (by omega)).gw g9 (by omega)).gw g10 (by omega)
  · exact (((r7).gw g8 (by omega)).gw g9 (by omega)).gw g10 (by omega)
  · exact ((r8).gw g9 (by omega)).gw g10 (by omega)
  · exact (r9).gw g10 (by omega)
  · exact r10
/-- a new State -/
theorem mk_st {M : Mem} (hN : 2 ^ 15 ≤ N) : ∃ M', (∀ (ρ : Type) (K : Nat → Mem → Option ρ), (mm_nm M.length (M ++ [.inr (7, [.int 0, .int 0, .int 0, .int 0, .int 0, .null, .null, .null, .null, .null, .null, .null, .null, .null, .null])]) fun b5 M6 => mm_b2 (fn_X7_init N M6 b5) fun _ M7 => K b5 M7) = K M.length M') ∧ StAt M' M.length (st0 kf0) ∧ M'.length = M.length + 21 ∧ ∀ b, b < M.length → M'[b]? = M[b]? := by
  obtain ⟨M1, e1, s1, g1⟩ := new_st (N := N) (M := M ++ [.inr (7, [.int 0, .int 0, .int 0, .int 0, .int 0, .null, .null, .null, .null, .null, .null, .null, .null, .null, .null])]) (a := M.length) hN ap_eq ap_len
  refine ⟨M1, fun ρ K => ?_, s1, by rw [g1.1, ap_len], fun b hb => ?_⟩
  · rw [nms, e1, b2s]
  · rw [g1.2 b (by rw [ap_len]; omega) (by omega), ap_lt hb]
theorem ev_sR {M : Mem} {a n j v : Nat} {x : Int32} {f : Nat → Option Nat} (h : M[a]? = some (.inl (4, n, .inr (.inr (.inr (.inr f)))))) (hx : x = nI j) (hj : j < n) (hn : n < 2 ^ 31) (hv : mm_ck M v 7 = some ()) : mm_sR M a x v = some (M.set a (.inl (4, n, .inr (.inr (.inr (.inr (va_up f j (some v)))))))) := by
  subst hx
  unfold mm_sR
  rw [h]
  have h1 := vp_in_nI hj hn
  have h2 : (nI j).toNatClampNeg = j := nI_clamp (by omega)
  dsimp only
  rw [if_pos ⟨rfl, h1⟩, h2, hv]
  rfl
/-- a new State goes into the array at q -/
theorem st_put {M : Mem} {a ci j q n i : Nat} {x : Int32} {fs : List Value} {f : Nat → Option Nat} (hN : 2 ^ 15 ≤ N) (h : M[a]? = some (.inr (ci, fs))) (hj : fs[j]? = some (.ref q)) (hq : M[q]? = some (.inl (4, n, .inr (.inr (.inr (.inr f)))))) (hx : x = nI i) (hi : i < n) (hn : n < 2 ^ 31) : ∃ M', (∀ (ρ : Type) (K : Mem → Option ρ), ((mm_gR M a ci j).bind fun b => mm_nm M.length (M ++ [.inr (7, [.int 0, .int 0, .int 0, .int 0, .int 0, .null, .null, .null, .null, .null, .null, .null, .null, .null, .null])]) fun b5 M6 => mm_b2 (fn_X7_init N M6 b5) fun _ M7 => (mm_sR M7 b x b5).bind K) = K M') ∧ StAt M' M.length (st0 kf0) ∧ M'[q]? = some (.inl (4, n, .inr (.inr (.inr (.inr (va_up f i (some M.length))))))) ∧ Gw M M' q 21 := by
  have ql := lt_of_some hq
  obtain ⟨M1, e1, s1, l1, p1⟩ := mk_st (N := N) (M := M) hN
  have q1 : M1[q]? = some (.inl (4, n, .inr (.inr (.inr (.inr f))))) := by rw [p1 q ql]; exact hq
  have e2 := ev_sR (v := M.length) q1 hx hi hn s1.ck
  have f2 : Fr M1 (M1.set q (.inl (4, n, .inr (.inr (.inr (.inr (va_up f i (some M.length)))))))) q (q + 1) := Fr.set (by omega) (by omega)
  refine ⟨_, fun ρ K => ?_, s1.keep f2 (by omega), st_self q1, by rw [f2.1, l1], fun b hb hn => by rw [f2.2 b (by omega)]; exact p1 b hb⟩
  rw [ev_gR h hj, obs, e1 ρ (fun b5 M7 => (mm_sR M7 q x b5).bind K), e2, obs]
theorem new_hi {M : Mem} (hN : 2 ^ 15 ≤ N) (h : M[79]? = some (.inr (1, [.null, .int 0, .int 0]))) (hl : M.length = 80) : ∃ M', fn_X1_init N M 79 = some ((), M') ∧ HiAt M' [] ∧ Gw M M' 79 253 := by
  unfold fn_X1_init
  rw [ev_nA (n := 12) (x := 12) rfl (by omega) (by omega), b2s, hl]
  have a0 : (M ++ [(.inl (4, 12, .inr (.inr (.inr (.inr (fun _ => none))))) : mE)])[79]? = some (.inr (1, [.null, .int 0, .int 0])) := by rw [ap_lt (by omega)]; exact h
  have b0 : (M ++ [(.inl (4, 12, .inr (.inr (.inr (.inr (fun _ => none))))) : mE)])[80]? = some (.inl (4, 12, .inr (.inr (.inr (.inr (fun _ => none)))))) := by
    have := ap_eq (M := M) (e := .inl (4, 12, .inr (.inr (.inr (.inr (fun _ => none))))))
    rw [hl] at this
    exact this
  have p0 : ∀ b, b < M.length → (M ++ [(.inl (4, 12, .inr (.inr (.inr (.inr (fun _ => none))))) : mE)])[b]? = M[b]? := fun b hb => ap_lt hb
  have q0 : (M ++ [(.inl (4, 12, .inr (.inr (.inr (.inr (fun _ => none))))) : mE)]).length = 81 := by rw [ap_len, hl]
  generalize M ++ [(.inl (4, 12, .inr (.inr (.inr (.inr (fun _ => none))))) : mE)] = Ma at a0 b0 p0 q0 ⊢
  obtain ⟨M0, e0, k0, f0⟩ := pv_step (j := 0) (v := .ref 80) a0 (by simp)
  rw [e0, obs]
  have l0 : M0.length = 81 := by rw [f0.1, q0]
  have c0 : M0[80]? = some (.inl (4, 12, .inr (.inr (.inr (.inr (fun _ => none)))))) := by rw [f0.2 80 (by omega)]; exact b0
  obtain ⟨M1, e1, s1, c1, g1⟩ := st_put (N := N) (j := 0) (i := 0) (x := 0) hN k0 rfl c0 (by decide) (by omega) (by omega)
  rw [e1]
  have l1 : M1.length = 102 := by rw [g1.1, l0]
  have k1 := k0
  rw [← g1.2 79 (by omega) (by omega)] at k1
  rw [l0] at s1 c1
  obtain ⟨M2, e2, s2, c2, g2⟩ := st_put (N := N) (j := 0) (i := 1) (x := (0 + 1)) hN k1 rfl c1 (by decide) (by omega) (by omega)
  rw [e2]
  have l2 : M2.length = 123 := by rw [g2.1, l1]
  have k2 := k1
  rw [← g2.2 79 (by omega) (by omega)] at k2
  rw [l1] at s2 c2
  obtain ⟨M3, e3, s3, c3, g3⟩ := st_put (N := N) (j := 0) (i := 2) (x := ((0 + 1) + 1)) hN k2 rfl c2 (by decide) (by omega) (by omega)
  rw [e3]
  have l3 : M3.length = 144 := by rw [g3.1, l2]
  have k3 := k2
  rw [← g3.2 79 (by omega) (by omega)] at k3
  rw [l2] at s3 c3
  obtain ⟨M4, e4, s4, c4, g4⟩ := st_put (N := N) (j := 0) (i := 3) (x := (((0 + 1) + 1) + 1)) hN k3 rfl c3 (by decide) (by omega) (by omega)
  rw [e4]
  have l4 : M4.length = 165 := by rw [g4.1, l3]
  have k4 := k3
  rw [← g4.2 79 (by omega) (by omega)] at k4
  rw [l3] at s4 c4
  obtain ⟨M5, e5, s5, c5, g5⟩ := st_put (N := N) (j := 0) (i := 4) (x := ((((0 + 1) + 1) + 1) + 1)) hN k4 rfl c4 (by decide) (by omega) (by omega)
  rw [e5]
  have l5 : M5.length = 186 := by rw [g5.1, l4]
  have k5 := k4
  rw [← g5.2 79 (by omega) (by omega)] at k5
  rw [l4] at s5 c5
  obtain ⟨M6, e6, s6, c6, g6⟩ := st_put (N := N) (j := 0) (i := 5) (x := (((((0 + 1) + 1) + 1) + 1) + 1)) hN k5 rfl c5 (by decide) (by omega) (by omega)
  rw [e6]
  have l6 : M6.length = 207 := by rw [g6.1, l5]
  have k6 := k5
  rw [← g6.2 79 (by omega) (by omega)] at k6
  rw [l5] at s6 c6
  obtain ⟨M7, e7, s7, c7, g7⟩ := st_put (N := N) (j := 0) (i := 6) (x := ((((((0 + 1) + 1) + 1) + 1) + 1) + 1)) hN k6 rfl c6 (by decide) (by omega) (by omega)
  rw [e7]
  have l7 : M7.length = 228 := by rw [g7.1, l6]
  have k7 := k6
  rw [← g7.2 79 (by omega) (by omega)] at k7
  rw [l6] at s7 c7
  obtain ⟨M8, e8, s8, c8, g8⟩ := st_put (N := N) (j := 0) (i := 7) (x := (((((((0 + 1) + 1) + 1) + 1) + 1) + 1) + 1)) hN k7 rfl c7 (by decide) (by omega) (by omega)
  rw [e8]
  have l8 : M8.length = 249 := by rw [g8.1, l7]
  have k8 := k7
  rw [← g8.2 79 (by omega) (by omega)] at k8
  rw [l7] at s8 c8
  obtain ⟨M9, e9, s9, c9, g9⟩ := st_put (N := N) (j := 0) (i := 8) (x := ((((((((0 + 1) + 1) + 1) + 1) + 1) + 1) + 1) + 1)) hN k8 rfl c8 (by decide) (by omega) (by omega)
  rw [e9]
  have l9 : M9.length = 270 := by rw [g9.1, l8]
  have k9 := k8
  rw [← g9.2 79 (by omega) (by omega)] at k9
  rw [l8] at s9 c9
  obtain ⟨M10, e10, s10, c10, g10⟩ := st_put (N := N) (j := 0) (i := 9) (x := (((((((((0 + 1) + 1) + 1) + 1) + 1) + 1) + 1) + 1) + 1)) hN k9 rfl c9 (by decide) (by omega) (by omega)
  rw [e10]
  have l10 : M10.length = 291 := by rw [g10.1, l9]
  have k10 := k9
  rw [← g10.2 79 (by omega) (by omega)] at k10
  rw [l9] at s10 c10
  obtain ⟨M11, e11, s11, c11, g11⟩ := st_put (N := N) (j := 0) (i := 10) (x := ((((((((((0 + 1) + 1) + 1) + 1) + 1) + 1) + 1) + 1) + 1) + 1)) hN k10 rfl c10 (by decide) (by omega) (by omega)
  rw [e11]
  have l11 : M11.length = 312 := by rw [g11.1, l10]
  have k11 := k10
  rw [← g11.2 79 (by omega) (by omega)] at k11
  rw [l10] at s11 c11
  obtain ⟨M12, e12, s12, c12, g12⟩ := st_put (N := N) (j := 0) (i := 11) (x := (((((((((((0 + 1) + 1) + 1) + 1) + 1) + 1) + 1) + 1) + 1) + 1) + 1)) hN k11 rfl c11 (by decide) (by omega) (by omega)
  rw [e12]
  have l12 : M12.length = 333 := by rw [g12.1, l11]
  have k12 := k11
  rw [← g12.2 79 (by omega) (by omega)] at k12
  rw [l11] at s12 c12
  have gg : Gw M0 M12 80 252 := g1.tr (g2.tr (g3.tr (g4.tr (g5.tr (g6.tr (g7.tr (g8.tr (g9.tr (g10.tr (g11.tr (g12)))))))))))
  refine ⟨M12, rfl, ⟨0, fun _ => st0 kf0, _, k12, c12, fun j hj => ?_, fun j hj => ?_, by omega, by decide, fun i hi => absurd hi (Nat.not_lt_zero _)⟩, ⟨by rw [gg.1, l0, hl], fun b hb hn => ?_⟩⟩
  · rcases (show j = 0 ∨ j = 1 ∨ j = 2 ∨ j = 3 ∨ j = 4 ∨ j = 5 ∨ j = 6 ∨ j = 7 ∨ j = 8 ∨ j = 9 ∨ j = 10 ∨ j = 11 by omega) with rfl | rfl | rfl | rfl | rfl | rfl | rfl | rfl | rfl | rfl | rfl | rfl <;> rfl
  · rcases (show j = 0 ∨ j = 1 ∨ j = 2 ∨ j = 3 ∨ j = 4 ∨ j = 5 ∨ j = 6 ∨ j = 7 ∨ j = 8 ∨ j = 9 ∨ j = 10 ∨ j = 11 by omega) with rfl | rfl | rfl | rfl | rfl | rfl | rfl | rfl | rfl | rfl | rfl | rfl
    · exact (((((((((((s1).gw g2 (by omega)).gw g3 (by omega)).gw g4 (by omega)).gw g5 (by omega)).gw g6 (by omega)).gw g7 (by omega)).gw g8 (by omega)).gw g9 (by omega)).gw g10 (by omega)).gw g11 (by omega)).gw g12 (by omega)
    · exact ((((((((((s2).gw g3 (by omega)).gw g4 (by omega)).gw g5 (by omega)).gw g6 (by omega)).gw g7 (by omega)).gw g8 (by omega)).gw g9 (by omega)).gw g10 (by omega)).gw g11 (by omega)).gw g12 (by omega)
    · exact (((((((((s3).gw g4 (by omega)).gw g5 (by omega)).gw g6 (by omega)).gw g7 (by omega)).gw g8 (by omega)).gw g9 (by omega)).gw g10 (by omega)).gw g11 (by omega)).gw g12 (by omega)
    · exact ((((((((s4).gw g5 (by omega)).gw g6 (by omega)).gw g7 (by omega)).gw g8 (by omega)).gw g9 (by omega)).gw g10 (by omega)).gw g11 (by omega)).gw g12 (by omega)
    · exact (((((((s5).gw g6 (by omega)).gw g7 (by omega)).gw g8 (by omega)).gw g9 (by omega)).gw g10 (by omega)).gw g11 (by omega)).gw g12 (by omega)
    · exact ((((((s6).gw g7 (by omega)).gw g8 (by omega)).gw g9 (by omega)).gw g10 (by omega)).gw g11 (by omega)).gw g12 (by omega)
    · exact (((((s7).gw g8 (by omega)).gw g9 (by omega)).gw g10 (by omega)).gw g11 (by omega)).gw g12 (by omega)
    · exact ((((s8).gw g9 (by omega)).gw g10 (by omega)).gw g11 (by omega)).gw g12 (by omega)
    · exact (((s9).gw g10 (by omega)).gw g11 (by omega)).gw g12 (by omega)
    · exact ((s10).gw g11 (by omega)).gw g12 (by omega)
    · exact (s11).gw g12 (by omega)
    · exact s12
  · rw [gg.2 b (by omega) (by omega), f0.2 b (by omega)]
    exact p0 b hb
end CO
